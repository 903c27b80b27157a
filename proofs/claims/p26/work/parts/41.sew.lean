def sc0 : Sc := (1, fun _ => 0, fun _ => 0)
def addP (t : Sc) : Sc := (t.1 + 1, zu t.2.1 (t.1 + 1) (t.2.1 t.1), t.2.2)
def addL (t : Sc) (z : Int) : Sc := (t.1, zu t.2.1 t.1 (t.2.1 t.1 + 1), zu t.2.2 (t.2.1 t.1) z)
/-- the shelf with a text sewn to it -/
def sewF (c : Nat → Int) : Nat → Nat → Nat → (Nat → Sc) → Sc → Sh
  | 0, _, n, s, t => (n + 1, zu s n t)
  | m + 1, i, n, s, t => if c i = 59 then sewF c m (i + 1) (n + 1) (zu s n t) sc0 else if c i = 124 then sewF c m (i + 1) n s (addP t) else sewF c m (i + 1) n s (addL t (c i - 97))
def oSew (A : aS) : aS × Int := if ff A.2.1.2 A.2.1.1 = -6 then (if 5 < A.1.1 + (1 + zcnt (fun j => decide (A.2.1.2 j = 59)) A.2.1.1) then (A, -4) else (stP (stS (rcd A) (sewF A.2.1.2 A.2.1.1 0 A.1.1 A.1.2 sc0)) 0 A.2.1.2, ((sewF A.2.1.2 A.2.1.1 0 A.1.1 A.1.2 sc0).1 : Int))) else (A, -3)
/-- a scroll that is read from a text -/
def ffI (s : Nat × Nat × Nat) (t : Sc) : Prop := s.1 ≤ 12 ∧ s.2.1 = t.1 ∧ 1 ≤ t.1 ∧ t.1 ≤ 5 ∧ t.2.1 t.1 = t.2.1 (t.1 - 1) + s.1 ∧ t.2.1 0 = 0 ∧ (∀ k, k + 1 < t.1 → t.2.1 k < t.2.1 (k + 1) ∧ t.2.1 (k + 1) ≤ t.2.1 k + 12) ∧ zB t.2.2 0 (t.2.1 t.1) ∧ t.2.1 (t.1 - 1) ≤ 12 * (t.1 - 1)
theorem ffI_0 {z : Nat} : ffI (0, 1, z) sc0 := ⟨Nat.zero_le _, rfl, by decide, by decide, rfl, rfl, fun k hk => by simp [sc0] at hk, fun j _ hj => by simp [sc0] at hj, by decide⟩
theorem ffI_wB {s : Nat × Nat × Nat} {t : Sc} (h : ffI s t) (h0 : 0 < s.1) : wB t := by
  obtain ⟨a1, a2, a3, a4, a5, a6, a7, a8, a9⟩ := h
  refine ⟨⟨a3, by omega, a6, fun k hk => ?_, by omega, a8⟩, a4, fun k hk => ?_⟩
  · by_cases c : k + 1 < t.1
    · exact (a7 k c).1
    · rw [show k + 1 = t.1 by omega, show k = t.1 - 1 by omega]; omega
  · by_cases c : k + 1 < t.1
    · exact (a7 k c).2
    · rw [show k + 1 = t.1 by omega, show k = t.1 - 1 by omega]; omega
theorem ffI_L {s : Nat × Nat × Nat} {t : Sc} {z : Int} (h : ffI s t) (hz : 97 ≤ z ∧ z ≤ 122) (h12 : s.1 < 12) : ffI (s.1 + 1, s.2.1, s.2.2) (addL t (z - 97)) := by
  obtain ⟨a1, a2, a3, a4, a5, a6, a7, a8, a9⟩ := h
  have e1 : zu t.2.1 t.1 (t.2.1 t.1 + 1) (t.1 - 1) = t.2.1 (t.1 - 1) := zu_ne (by omega)
  refine ⟨?_, ?_, ?_, ?_, ?_, ?_, fun k hk => ?_, fun j h1 h2 => ?_, ?_⟩
  · dsimp only; omega
  · simp only [addL]; exact a2
  · simp only [addL]; exact a3
  · simp only [addL]; exact a4
  · simp only [addL]; rw [zu_same, e1]; omega
  · simp only [addL]; rw [zu_ne (by omega)]; exact a6
  · simp only [addL] at hk ⊢; rw [zu_ne (by omega), zu_ne (by omega)]; exact a7 k hk
  · simp only [addL] at h2 ⊢
    rw [zu_same] at h2
    by_cases c : j = t.2.1 t.1
    · rw [c, zu_same]; omega
    · rw [zu_ne c]; exact a8 j h1 (by omega)
  · simp only [addL]; rw [e1]; exact a9
theorem ffI_P {s : Nat × Nat × Nat} {t : Sc} (h : ffI s t) (h0 : 0 < s.1) (h5 : s.2.1 < 5) : ffI (0, s.2.1 + 1, s.2.2) (addP t) := by
  obtain ⟨a1, a2, a3, a4, a5, a6, a7, a8, a9⟩ := h
  refine ⟨?_, ?_, ?_, ?_, ?_, ?_, fun k hk => ?_, ?_, ?_⟩
  · dsimp only; omega
  · simp only [addP]; omega
  · simp only [addP]; omega
  · simp only [addP]; omega
  · simp only [addP, Nat.add_sub_cancel]; rw [zu_same, zu_ne (by omega)]; omega
  · simp only [addP]; rw [zu_ne (by omega)]; exact a6
  · simp only [addP] at hk ⊢
    rw [zu_ne (by omega), zu_ne (by omega)]
    by_cases c : k + 1 < t.1
    · exact a7 k c
    · rw [show k + 1 = t.1 by omega, show k = t.1 - 1 by omega]; omega
  · simp only [addP]; rw [zu_same]; exact a8
  · simp only [addP, Nat.add_sub_cancel]; rw [zu_ne (by omega)]; omega
theorem ffS_some {c : Int} {s s' : Nat × Nat × Nat} (h : ffS c s = some s') : (((97 ≤ c ∧ c ≤ 122) ∧ s.1 < 12) ∧ s' = (s.1 + 1, s.2.1, s.2.2)) ∨ (c = 124 ∧ (0 < s.1 ∧ s.2.1 < 5) ∧ s' = (0, s.2.1 + 1, s.2.2)) ∨ (c = 59 ∧ (0 < s.1 ∧ s.2.2 < 5) ∧ s' = (0, 1, s.2.2 + 1)) := by
  rw [ffS] at h
  split at h
  · rename_i g; exact Or.inl ⟨g, (Option.some.inj h).symm⟩
  · split at h
    · rename_i g; exact Or.inr (Or.inl ⟨g.1, g.2, (Option.some.inj h).symm⟩)
    · split at h
      · rename_i g; exact Or.inr (Or.inr ⟨g.1, g.2, (Option.some.inj h).symm⟩)
      · cases h
theorem ffR_s {c : Nat → Int} {m i : Nat} {st : Nat × Nat × Nat} (h : ffR c (m + 1) i st = -6) : ∃ st', ffS (c i) st = some st' ∧ ffR c m (i + 1) st' = -6 := by
  rw [ffR] at h
  split at h
  · rename_i s' g; exact ⟨s', g, h⟩
  · omega
theorem sewF_wf {c : Nat → Int} : ∀ (m i n : Nat) (s : Nat → Sc) (t : Sc) (st : Nat × Nat × Nat), ffR c m i st = -6 → ffI st t → (∀ j, j < n → wB (s j)) → ∀ j, j < (sewF c m i n s t).1 → wB ((sewF c m i n s t).2 j)
  | 0, i, n, s, t, st, h, hI, hs, j, hj => by
    rw [ffR] at h
    simp only [sewF] at hj ⊢
    have h0 : 0 < st.1 := by
      split at h <;> omega
    by_cases e : j = n
    · rw [e, zu_same]; exact ffI_wB hI h0
    · rw [zu_ne e]; exact hs j (by omega)
  | m + 1, i, n, s, t, st, h, hI, hs, j, hj => by
    obtain ⟨st', g1, g2⟩ := ffR_s h
    rcases ffS_some g1 with ⟨q1, q2⟩ | ⟨q1, q2, q3⟩ | ⟨q1, q2, q3⟩
    · have e1 : sewF c (m + 1) i n s t = sewF c m (i + 1) n s (addL t (c i - 97)) := by rw [sewF, if_neg (by omega), if_neg (by omega)]
      rw [e1] at hj ⊢
      exact sewF_wf m (i + 1) n s _ st' g2 (q2 ▸ ffI_L hI q1.1 q1.2) hs j hj
    · have e1 : sewF c (m + 1) i n s t = sewF c m (i + 1) n s (addP t) := by rw [sewF, if_neg (by omega), if_pos q1]
      rw [e1] at hj ⊢
      exact sewF_wf m (i + 1) n s _ st' g2 (q3 ▸ ffI_P hI q2.1 q2.2) hs j hj
    · have e1 : sewF c (m + 1) i n s t = sewF c m (i + 1) (n + 1) (zu s n t) sc0 := by rw [sewF, if_pos q1]
      rw [e1] at hj ⊢
      refine sewF_wf m (i + 1) (n + 1) _ _ st' g2 (q3 ▸ ffI_0) (fun k hk => ?_) j hj
      by_cases e : k = n
      · rw [e, zu_same]; exact ffI_wB hI q2.1
      · rw [zu_ne e]; exact hs k (by omega)
theorem sewF_n {c : Nat → Int} : ∀ (m i n : Nat) (s : Nat → Sc) (t : Sc), (sewF c m i n s t).1 + zcnt (fun j => decide (c j = 59)) i = n + 1 + zcnt (fun j => decide (c j = 59)) (i + m)
  | 0, i, n, s, t => by simp only [sewF]; rfl
  | m + 1, i, n, s, t => by
    have ez : zcnt (fun j => decide (c j = 59)) (i + 1) = zcnt (fun j => decide (c j = 59)) i + (if decide (c i = 59) = true then 1 else 0) := rfl
    rw [show i + (m + 1) = i + 1 + m by omega]
    rw [sewF]
    by_cases c1 : c i = 59
    · have := sewF_n m (i + 1) (n + 1) (zu s n t) sc0 (c := c)
      rw [if_pos (decide_eq_true c1)] at ez
      rw [if_pos c1]
      omega
    · rw [if_neg (by simpa using c1)] at ez
      rw [if_neg c1]
      split
      · have := sewF_n m (i + 1) n s (addP t) (c := c)
        omega
      · have := sewF_n m (i + 1) n s (addL t (c i - 97)) (c := c)
        omega
theorem zcnt_mono {P : Nat → Bool} : ∀ (m i : Nat), zcnt P i ≤ zcnt P (i + m)
  | 0, i => Nat.le_refl _
  | m + 1, i => by
    have := zcnt_mono (P := P) m i
    have e : zcnt P (i + (m + 1)) = zcnt P (i + m) + (if P (i + m) = true then 1 else 0) := rfl
    omega
theorem ffR_rr {c : Nat → Int} : ∀ (m i : Nat) (st : Nat × Nat × Nat), i + m ≤ 64 → -6 ≤ ffR c m i st ∧ ffR c m i st ≤ 64
  | 0, i, st, h => by
    rw [ffR]
    split <;> omega
  | m + 1, i, st, h => by
    rw [ffR]
    split
    · exact ffR_rr m (i + 1) _ (by omega)
    · omega
theorem ff_rr {c : Nat → Int} {n : Nat} (h : n ≤ 64) : zRr (ff c n) := by
  have := ffR_rr (c := c) n 0 (0, 1, 1) (by omega)
  rw [ff]
  exact zrr (by omega) (by omega)
theorem wfA_rcd {A : aS} (h : wfA A) : wfA (rcd A) := by
  obtain ⟨h1, h2, ⟨h3, h4⟩, h5⟩ := h
  refine ⟨h1, h2, ⟨?_, fun i hi => ?_⟩, h5⟩
  · simp only [rcd, hrN]; split <;> omega
  · simp only [rcd, hrN, hrS] at hi ⊢
    split
    · rename_i c
      rw [if_pos c] at hi
      by_cases e : i = A.2.2.1.1
      · rw [e, zu_same]; exact h1
      · rw [zu_ne e]; exact h4 i (by omega)
    · rename_i c
      rw [if_neg c] at hi
      by_cases e : i = 5
      · rw [e, zu_same]; exact h1
      · rw [zu_ne e]; exact h4 (i + 1) (by omega)
section SW
variable {lo d x a p : Nat} {b : Nat → Nat} {f : Nat → Int} {A : aS} {M : zM}
theorem g_addPatch {Q : Option zV → zM → Prop} (hs : sG M a p b f) (hp : 1 ≤ p ∧ p < 6) (hQ : ∀ M', sG M' a (p + 1) (zu b (p + 1) (b p)) f → zfr M M' a (a + 3) → Q none M') : zCt lo (d + 2) kX4_addPatch 0 0 [(Sum.inr (Sum.inl (some (a))))] M Q := by
  obtain ⟨E, L, h1, h2, h3⟩ := hs
  refine c_addPatch h1 (by omega) (fun M' q1 q2 => ?_)
  rw [Int.toNat_natCast, show (p : Int) + 1 = ((p + 1 : Nat) : Int) by omega] at q1
  refine hQ M' ⟨_, L, q1, fun k hk => ?_, fun j hj => ?_⟩ q2
  · by_cases c : k = p
    · subst c
      rw [zu_same, zu_same, sSt, if_pos (by omega), show ((k : Int) - 1).toNat = k - 1 by omega, h2 (k - 1) (by omega), show k - 1 + 1 = k by omega]
    · rw [zu_ne c, zu_ne (by omega)]; exact h2 k (by omega)
  · rw [zu_same] at hj; exact h3 j hj
theorem g_addLetter {z : Int} {Q : Option zV → zM → Prop} (hs : sG M a p b f) (hp : 1 ≤ p ∧ p ≤ 6) (hb : b p < 60) (hQ : ∀ M', sG M' a p (zu b p (b p + 1)) (zu f (b p) z) → zfr M M' a (a + 3) → Q none M') : zCt lo (d + 2) kX4_addLetter 0 0 [(Sum.inr (Sum.inl (some (a)))), (Sum.inl (z))] M Q := by
  obtain ⟨E, L, h1, h2, h3⟩ := hs
  have e1 : ((p : Int) - 1).toNat = p - 1 := by omega
  have e2 : E (p - 1) = (b p : Int) := by rw [h2 (p - 1) (by omega), show p - 1 + 1 = p by omega]
  refine c_addLetter h1 (by omega) (by rw [e1, e2]; omega) (fun M' q1 q2 => ?_)
  rw [e1, e2, Int.toNat_natCast] at q1
  refine hQ M' ⟨_, _, q1, fun k hk => ?_, fun j hj => ?_⟩ q2
  · by_cases c : k = p - 1
    · subst c
      rw [zu_same, show p - 1 + 1 = p by omega, zu_same]; omega
    · rw [zu_ne c, zu_ne (by omega)]; exact h2 k hk
  · rw [zu_same] at hj
    by_cases c : j = b p
    · rw [c, zu_same, zu_same]
    · rw [zu_ne c, zu_ne c]; exact h3 j (by omega)
theorem c_sewText {Q : Option zV → zM → Prop} (hc : clG M x A) (hw : wfA A) (hff : ff A.2.1.2 A.2.1.1 = -6) (h5 : A.1.1 + (1 + zcnt (fun j => decide (A.2.1.2 j = 59)) A.2.1.1) ≤ 5) (hQ : ∀ M', shG M' (x + 1) (sewF A.2.1.2 A.2.1.1 0 A.1.1 A.1.2 sc0).1 (sewF A.2.1.2 A.2.1.1 0 A.1.1 A.1.2 sc0).2 → zfr M M' (x + 1) (x + 18) → Q none M') : zCt lo (d + 6) kX6_sewText 0 0 [(Sum.inr (Sum.inl (some (x))))] M Q := by
  obtain ⟨hx, h2, h3, -⟩ := id hc
  have m0 := hx.1
  unfold xO at m0
  have m1 := h2.2.1
  obtain ⟨⟨n0, s0⟩, ⟨pn, pc⟩, rest⟩ := A
  dsimp only at *
  have hpn := hw.2.1.1
  have hwp := hw.2.1.2
  dsimp only at hpn hwp
  have key : ∀ (m i n : Nat) (s : Nat → Sc) (t : Sc) (st : Nat × Nat × Nat) (M' : zM) (a : Nat) (w : Option zV), i + m = pn → (w = none ∨ ∃ z, w = some (Sum.inl (z))) → ffR pc m i st = -6 → ffI st t → n + 1 + zcnt (fun j => decide (pc j = 59)) pn ≤ 5 + zcnt (fun j => decide (pc j = 59)) i → x + 3 ≤ a → a + 3 ≤ x + 18 → sG M' a t.1 t.2.1 t.2.2 → (∀ M2 (t : Sc), zfr M' M2 a (a + 3) → sG M2 a t.1 t.2.1 t.2.2 → shG M2 (x + 1) (n + 1) (zu s n t)) → zfr M M' (x + 1) (x + 18) → sewF pc m i n s t = sewF pc pn 0 n0 s0 sc0 → zm lo (d + 6) kX6_sewText 0 0 Q (0, 0) 10 [some (Sum.inr (Sum.inl (some (x)))), some (Sum.inr (Sum.inl (some (a)))), some (Sum.inl ((i : Int))), w] [] M' := by
    intro m
    induction m with
    | zero =>
      intro i n s t st M' a w hi hw' hff hI hn5 ha1 ha2 hs hcont hf he
      have p0 : M' x = _ := (hf x (by omega)).trans m0
      obtain ⟨-, C', p2, -, -⟩ := id (h3.keep hf (by omega))
      have r1 : zRr (i : Int) := zrr (by omega) (by omega)
      have r2 : zRr (pn : Int) := zrr (by omega) (by omega)
      refine zgo [10] ?_
      simp only [↓zX_succ, ↓zstp_nil, ↓zstp_cons, ↓reduceIte, zpu_some, zpu_none, zcs, zg, zst, Nat.reduceAdd, Nat.reduceSub, Nat.reduceMul, Nat.reduceEqDiff, Nat.reduceLeDiff, Nat.reduceLT, Int.reduceToNat, Int.reduceAdd, Int.reduceSub, Int.reduceMul, Int.reduceNeg, Int.reduceLE, Int.reduceLT, Int.reduceEq, Int.cast_ofNat_Int, Int.reduceNatCast', true_and, and_true, and_self, Nat.le_refl, Nat.add_zero, Nat.zero_add, Nat.zero_le, Nat.not_lt_zero, or_true, true_or, or_false, false_or, not_true_eq_false, not_false_eq_true, forall_const, true_implies, false_implies, implies_true, zup_same, zup_zup, Int.toNat_natCast, Nat.reduceDiv, List.length_cons, List.length_nil, Nat.succ_ne_zero, ne_eq, reduceCtorEq, zRl_m6, zRl_m5, zRl_m4, zRl_m3, zRl_m2, zRl_m1, zRl_0, zRl_1, zRl_2, zRl_3, zRl_4, zRl_5, zRl_6, zRl_7, zRl_8, zRl_9, zRl_10, zRl_11, zRl_12, zRl_13, zRl_14, zRl_15, zRl_16, zRl_17, zRl_18, zRl_19, zRl_20, zRl_21, zRl_22, zRl_23, zRl_31, zRl_32, zRl_33, zRl_49, zRl_59, zRl_60, zRl_64, zRl_97, zRl_122, zRl_124, zRl_126, zRl_128, zRl_717809397, zRl_1067285329, zRl_2147483647, o_X6_sewText, r_X6_sewText, eX6_sewText_0, q_aload_0, eX6_sewText_1, q_getfield, zqg_s, zqv_s, zF_6_10, eX6_sewText_4, q_invv, zqo_s, zqc_s, zC_6_206, o_X5_addScroll, zqcv_0, eX6_sewText_7, q_astore_1n, q_astore_1i, q_astore_1a, eX6_sewText_8, q_iconst, eX6_sewText_9, q_istore_2n, q_istore_2i, q_istore_2a, eX6_sewText_10, q_iload_2, eX6_sewText_11, eX6_sewText_12, zF_6_19, eX6_sewText_15, zF_6_179, eX6_sewText_18, q_icmp_ge, eX6_sewText_21, eX6_sewText_22, eX6_sewText_25, eX6_sewText_26, zC_6_210, o_X2_codeAt, zqcv_1, eX6_sewText_29, q_istore_3n, q_istore_3i, q_istore_3a, eX6_sewText_30, q_iload_3, eX6_sewText_31, q_bipush, eX6_sewText_33, q_icmp_ne, eX6_sewText_36, eX6_sewText_37, eX6_sewText_40, eX6_sewText_43, eX6_sewText_44, q_goto, eX6_sewText_47, q_aload_1, eX6_sewText_48, q_ifnull_n, q_ifnull_s, eX6_sewText_51, eX6_sewText_52, eX6_sewText_54, eX6_sewText_57, eX6_sewText_58, zC_6_213, o_X4_addPatch, eX6_sewText_61, eX6_sewText_64, eX6_sewText_65, eX6_sewText_68, eX6_sewText_69, eX6_sewText_70, eX6_sewText_72, q_isub, eX6_sewText_73, zC_6_216, o_X4_addLetter, eX6_sewText_76, q_iinc_2n, q_iinc_2i, q_iinc_2a, eX6_sewText_79, eX6_sewText_82, q_return, zqe_s, p0, p2, r1, r2]
      refine ⟨fun _ => ?_, fun q => by omega⟩
      refine hQ M' ?_ hf
      rw [← he]
      exact hcont M' t zfr_rf hs
    | succ m ih =>
      intro i n s t st M' a w hi hw' hff hI hn5 ha1 ha2 hs hcont hf he
      have p0 : M' x = _ := (hf x (by omega)).trans m0
      have hp3 := h3.keep hf (by omega)
      obtain ⟨-, C', p2, -, -⟩ := id hp3
      have r1 : zRr (i : Int) := zrr (by omega) (by omega)
      have r2 : zRr (pn : Int) := zrr (by omega) (by omega)
      have hci := hwp i (by omega)
      have r3 : zRr (pc i) := zrr (by omega) (by omega)
      have r4 : zRr (pc i - 97) := zrr (by omega) (by omega)
      obtain ⟨E, L, ⟨g1, -, -⟩, -, -⟩ := id hs
      have hsh := hcont M' t zfr_rf hs
      have g2 := hsh.2.1
      obtain ⟨st', k1, k2⟩ := ffR_s hff
      have ez : zcnt (fun j => decide (pc j = 59)) (i + 1) = zcnt (fun j => decide (pc j = 59)) i + (if decide (pc i = 59) = true then 1 else 0) := rfl
      have ezm := zcnt_mono (P := fun j => decide (pc j = 59)) m (i + 1)
      rw [show i + 1 + m = pn by omega] at ezm
      rw [sewF] at he
      refine zgo [10] ?_
      simp only [↓zX_succ, ↓zstp_nil, ↓zstp_cons, ↓reduceIte, zpu_some, zpu_none, zcs, zg, zst, Nat.reduceAdd, Nat.reduceSub, Nat.reduceMul, Nat.reduceEqDiff, Nat.reduceLeDiff, Nat.reduceLT, Int.reduceToNat, Int.reduceAdd, Int.reduceSub, Int.reduceMul, Int.reduceNeg, Int.reduceLE, Int.reduceLT, Int.reduceEq, Int.cast_ofNat_Int, Int.reduceNatCast', true_and, and_true, and_self, Nat.le_refl, Nat.add_zero, Nat.zero_add, Nat.zero_le, Nat.not_lt_zero, or_true, true_or, or_false, false_or, not_true_eq_false, not_false_eq_true, forall_const, true_implies, false_implies, implies_true, zup_same, zup_zup, Int.toNat_natCast, Nat.reduceDiv, List.length_cons, List.length_nil, Nat.succ_ne_zero, ne_eq, reduceCtorEq, zRl_m6, zRl_m5, zRl_m4, zRl_m3, zRl_m2, zRl_m1, zRl_0, zRl_1, zRl_2, zRl_3, zRl_4, zRl_5, zRl_6, zRl_7, zRl_8, zRl_9, zRl_10, zRl_11, zRl_12, zRl_13, zRl_14, zRl_15, zRl_16, zRl_17, zRl_18, zRl_19, zRl_20, zRl_21, zRl_22, zRl_23, zRl_31, zRl_32, zRl_33, zRl_49, zRl_59, zRl_60, zRl_64, zRl_97, zRl_122, zRl_124, zRl_126, zRl_128, zRl_717809397, zRl_1067285329, zRl_2147483647, o_X6_sewText, r_X6_sewText, eX6_sewText_0, q_aload_0, eX6_sewText_1, q_getfield, zqg_s, zqv_s, zF_6_10, eX6_sewText_4, q_invv, zqo_s, zqc_s, zC_6_206, o_X5_addScroll, zqcv_0, eX6_sewText_7, q_astore_1n, q_astore_1i, q_astore_1a, eX6_sewText_8, q_iconst, eX6_sewText_9, q_istore_2n, q_istore_2i, q_istore_2a, eX6_sewText_10, q_iload_2, eX6_sewText_11, eX6_sewText_12, zF_6_19, eX6_sewText_15, zF_6_179, eX6_sewText_18, q_icmp_ge, eX6_sewText_21, eX6_sewText_22, eX6_sewText_25, eX6_sewText_26, zC_6_210, o_X2_codeAt, zqcv_1, eX6_sewText_29, q_istore_3n, q_istore_3i, q_istore_3a, eX6_sewText_30, q_iload_3, eX6_sewText_31, q_bipush, eX6_sewText_33, q_icmp_ne, eX6_sewText_36, eX6_sewText_37, eX6_sewText_40, eX6_sewText_43, eX6_sewText_44, q_goto, eX6_sewText_47, q_aload_1, eX6_sewText_48, q_ifnull_n, q_ifnull_s, eX6_sewText_51, eX6_sewText_52, eX6_sewText_54, eX6_sewText_57, eX6_sewText_58, zC_6_213, o_X4_addPatch, eX6_sewText_61, eX6_sewText_64, eX6_sewText_65, eX6_sewText_68, eX6_sewText_69, eX6_sewText_70, eX6_sewText_72, q_isub, eX6_sewText_73, zC_6_216, o_X4_addLetter, eX6_sewText_76, q_iinc_2n, q_iinc_2i, q_iinc_2a, eX6_sewText_79, eX6_sewText_82, q_return, zqe_s, p0, p2, r1, r2]
      refine ⟨fun q => by omega, fun _ => ?_⟩
      refine c_codeAt hp3 (by omega) ?_
      rcases ffS_some k1 with ⟨q1, q2⟩ | ⟨q1, q2, q3⟩ | ⟨q1, q2, q3⟩
      · rw [if_neg (by omega), if_neg (by omega)] at he
        rw [if_neg (by simp; omega), Nat.add_zero] at ez
        have c1 : (pc i = 59) = False := eq_false (by omega)
        have c2 : (pc i = 124) = False := eq_false (by omega)
        obtain ⟨b1, b2, b3, b4, b5, b6, b7, b8, b9⟩ := id hI
        rcases hw' with rfl | ⟨z, rfl⟩
        all_goals
          refine zgo [10] ?_
          simp only [↓zX_succ, ↓zstp_nil, ↓zstp_cons, ↓reduceIte, zpu_some, zpu_none, zcs, zg, zst, Nat.reduceAdd, Nat.reduceSub, Nat.reduceMul, Nat.reduceEqDiff, Nat.reduceLeDiff, Nat.reduceLT, Int.reduceToNat, Int.reduceAdd, Int.reduceSub, Int.reduceMul, Int.reduceNeg, Int.reduceLE, Int.reduceLT, Int.reduceEq, Int.cast_ofNat_Int, Int.reduceNatCast', true_and, and_true, and_self, Nat.le_refl, Nat.add_zero, Nat.zero_add, Nat.zero_le, Nat.not_lt_zero, or_true, true_or, or_false, false_or, not_true_eq_false, not_false_eq_true, forall_const, true_implies, false_implies, implies_true, zup_same, zup_zup, Int.toNat_natCast, Nat.reduceDiv, List.length_cons, List.length_nil, Nat.succ_ne_zero, ne_eq, reduceCtorEq, zRl_m6, zRl_m5, zRl_m4, zRl_m3, zRl_m2, zRl_m1, zRl_0, zRl_1, zRl_2, zRl_3, zRl_4, zRl_5, zRl_6, zRl_7, zRl_8, zRl_9, zRl_10, zRl_11, zRl_12, zRl_13, zRl_14, zRl_15, zRl_16, zRl_17, zRl_18, zRl_19, zRl_20, zRl_21, zRl_22, zRl_23, zRl_31, zRl_32, zRl_33, zRl_49, zRl_59, zRl_60, zRl_64, zRl_97, zRl_122, zRl_124, zRl_126, zRl_128, zRl_717809397, zRl_1067285329, zRl_2147483647, o_X6_sewText, r_X6_sewText, eX6_sewText_0, q_aload_0, eX6_sewText_1, q_getfield, zqg_s, zqv_s, zF_6_10, eX6_sewText_4, q_invv, zqo_s, zqc_s, zC_6_206, o_X5_addScroll, zqcv_0, eX6_sewText_7, q_astore_1n, q_astore_1i, q_astore_1a, eX6_sewText_8, q_iconst, eX6_sewText_9, q_istore_2n, q_istore_2i, q_istore_2a, eX6_sewText_10, q_iload_2, eX6_sewText_11, eX6_sewText_12, zF_6_19, eX6_sewText_15, zF_6_179, eX6_sewText_18, q_icmp_ge, eX6_sewText_21, eX6_sewText_22, eX6_sewText_25, eX6_sewText_26, zC_6_210, o_X2_codeAt, zqcv_1, eX6_sewText_29, q_istore_3n, q_istore_3i, q_istore_3a, eX6_sewText_30, q_iload_3, eX6_sewText_31, q_bipush, eX6_sewText_33, q_icmp_ne, eX6_sewText_36, eX6_sewText_37, eX6_sewText_40, eX6_sewText_43, eX6_sewText_44, q_goto, eX6_sewText_47, q_aload_1, eX6_sewText_48, q_ifnull_n, q_ifnull_s, eX6_sewText_51, eX6_sewText_52, eX6_sewText_54, eX6_sewText_57, eX6_sewText_58, zC_6_213, o_X4_addPatch, eX6_sewText_61, eX6_sewText_64, eX6_sewText_65, eX6_sewText_68, eX6_sewText_69, eX6_sewText_70, eX6_sewText_72, q_isub, eX6_sewText_73, zC_6_216, o_X4_addLetter, eX6_sewText_76, q_iinc_2n, q_iinc_2i, q_iinc_2a, eX6_sewText_79, eX6_sewText_82, q_return, zqe_s, r3, r4, c1, c2, g1]
          refine g_addLetter hs (by omega) (by omega) (fun M2 w1 w2 => ?_)
          refine zgo [10] ?_
          simp only [↓zX_succ, ↓zstp_nil, ↓zstp_cons, ↓reduceIte, zpu_some, zpu_none, zcs, zg, zst, Nat.reduceAdd, Nat.reduceSub, Nat.reduceMul, Nat.reduceEqDiff, Nat.reduceLeDiff, Nat.reduceLT, Int.reduceToNat, Int.reduceAdd, Int.reduceSub, Int.reduceMul, Int.reduceNeg, Int.reduceLE, Int.reduceLT, Int.reduceEq, Int.cast_ofNat_Int, Int.reduceNatCast', true_and, and_true, and_self, Nat.le_refl, Nat.add_zero, Nat.zero_add, Nat.zero_le, Nat.not_lt_zero, or_true, true_or, or_false, false_or, not_true_eq_false, not_false_eq_true, forall_const, true_implies, false_implies, implies_true, zup_same, zup_zup, Int.toNat_natCast, Nat.reduceDiv, List.length_cons, List.length_nil, Nat.succ_ne_zero, ne_eq, reduceCtorEq, zRl_m6, zRl_m5, zRl_m4, zRl_m3, zRl_m2, zRl_m1, zRl_0, zRl_1, zRl_2, zRl_3, zRl_4, zRl_5, zRl_6, zRl_7, zRl_8, zRl_9, zRl_10, zRl_11, zRl_12, zRl_13, zRl_14, zRl_15, zRl_16, zRl_17, zRl_18, zRl_19, zRl_20, zRl_21, zRl_22, zRl_23, zRl_31, zRl_32, zRl_33, zRl_49, zRl_59, zRl_60, zRl_64, zRl_97, zRl_122, zRl_124, zRl_126, zRl_128, zRl_717809397, zRl_1067285329, zRl_2147483647, o_X6_sewText, r_X6_sewText, eX6_sewText_0, q_aload_0, eX6_sewText_1, q_getfield, zqg_s, zqv_s, zF_6_10, eX6_sewText_4, q_invv, zqo_s, zqc_s, zC_6_206, o_X5_addScroll, zqcv_0, eX6_sewText_7, q_astore_1n, q_astore_1i, q_astore_1a, eX6_sewText_8, q_iconst, eX6_sewText_9, q_istore_2n, q_istore_2i, q_istore_2a, eX6_sewText_10, q_iload_2, eX6_sewText_11, eX6_sewText_12, zF_6_19, eX6_sewText_15, zF_6_179, eX6_sewText_18, q_icmp_ge, eX6_sewText_21, eX6_sewText_22, eX6_sewText_25, eX6_sewText_26, zC_6_210, o_X2_codeAt, zqcv_1, eX6_sewText_29, q_istore_3n, q_istore_3i, q_istore_3a, eX6_sewText_30, q_iload_3, eX6_sewText_31, q_bipush, eX6_sewText_33, q_icmp_ne, eX6_sewText_36, eX6_sewText_37, eX6_sewText_40, eX6_sewText_43, eX6_sewText_44, q_goto, eX6_sewText_47, q_aload_1, eX6_sewText_48, q_ifnull_n, q_ifnull_s, eX6_sewText_51, eX6_sewText_52, eX6_sewText_54, eX6_sewText_57, eX6_sewText_58, zC_6_213, o_X4_addPatch, eX6_sewText_61, eX6_sewText_64, eX6_sewText_65, eX6_sewText_68, eX6_sewText_69, eX6_sewText_70, eX6_sewText_72, q_isub, eX6_sewText_73, zC_6_216, o_X4_addLetter, eX6_sewText_76, q_iinc_2n, q_iinc_2i, q_iinc_2a, eX6_sewText_79, eX6_sewText_82, q_return, zqe_s, r1]
          rw [show (i : Int) + 1 = ((i + 1 : Nat) : Int) by omega]
          exact ih (i + 1) n s (addL t (pc i - 97)) st' M2 a _ (by omega) (Or.inr ⟨_, rfl⟩) k2 (q2 ▸ ffI_L hI q1.1 q1.2) (by omega) ha1 ha2 w1 (fun M3 t3 f3 s3 => hcont M3 t3 (w2.tr f3) s3) (hf.tr (w2.mono (by omega) (by omega))) he
      · rw [if_neg (by omega), if_pos q1] at he
        rw [if_neg (by simp; omega), Nat.add_zero] at ez
        obtain ⟨b1, b2, b3, b4, b5, b6, b7, b8, b9⟩ := id hI
        rcases hw' with rfl | ⟨z, rfl⟩
        all_goals
          refine zgo [10] ?_
          simp only [↓zX_succ, ↓zstp_nil, ↓zstp_cons, ↓reduceIte, zpu_some, zpu_none, zcs, zg, zst, Nat.reduceAdd, Nat.reduceSub, Nat.reduceMul, Nat.reduceEqDiff, Nat.reduceLeDiff, Nat.reduceLT, Int.reduceToNat, Int.reduceAdd, Int.reduceSub, Int.reduceMul, Int.reduceNeg, Int.reduceLE, Int.reduceLT, Int.reduceEq, Int.cast_ofNat_Int, Int.reduceNatCast', true_and, and_true, and_self, Nat.le_refl, Nat.add_zero, Nat.zero_add, Nat.zero_le, Nat.not_lt_zero, or_true, true_or, or_false, false_or, not_true_eq_false, not_false_eq_true, forall_const, true_implies, false_implies, implies_true, zup_same, zup_zup, Int.toNat_natCast, Nat.reduceDiv, List.length_cons, List.length_nil, Nat.succ_ne_zero, ne_eq, reduceCtorEq, zRl_m6, zRl_m5, zRl_m4, zRl_m3, zRl_m2, zRl_m1, zRl_0, zRl_1, zRl_2, zRl_3, zRl_4, zRl_5, zRl_6, zRl_7, zRl_8, zRl_9, zRl_10, zRl_11, zRl_12, zRl_13, zRl_14, zRl_15, zRl_16, zRl_17, zRl_18, zRl_19, zRl_20, zRl_21, zRl_22, zRl_23, zRl_31, zRl_32, zRl_33, zRl_49, zRl_59, zRl_60, zRl_64, zRl_97, zRl_122, zRl_124, zRl_126, zRl_128, zRl_717809397, zRl_1067285329, zRl_2147483647, o_X6_sewText, r_X6_sewText, eX6_sewText_0, q_aload_0, eX6_sewText_1, q_getfield, zqg_s, zqv_s, zF_6_10, eX6_sewText_4, q_invv, zqo_s, zqc_s, zC_6_206, o_X5_addScroll, zqcv_0, eX6_sewText_7, q_astore_1n, q_astore_1i, q_astore_1a, eX6_sewText_8, q_iconst, eX6_sewText_9, q_istore_2n, q_istore_2i, q_istore_2a, eX6_sewText_10, q_iload_2, eX6_sewText_11, eX6_sewText_12, zF_6_19, eX6_sewText_15, zF_6_179, eX6_sewText_18, q_icmp_ge, eX6_sewText_21, eX6_sewText_22, eX6_sewText_25, eX6_sewText_26, zC_6_210, o_X2_codeAt, zqcv_1, eX6_sewText_29, q_istore_3n, q_istore_3i, q_istore_3a, eX6_sewText_30, q_iload_3, eX6_sewText_31, q_bipush, eX6_sewText_33, q_icmp_ne, eX6_sewText_36, eX6_sewText_37, eX6_sewText_40, eX6_sewText_43, eX6_sewText_44, q_goto, eX6_sewText_47, q_aload_1, eX6_sewText_48, q_ifnull_n, q_ifnull_s, eX6_sewText_51, eX6_sewText_52, eX6_sewText_54, eX6_sewText_57, eX6_sewText_58, zC_6_213, o_X4_addPatch, eX6_sewText_61, eX6_sewText_64, eX6_sewText_65, eX6_sewText_68, eX6_sewText_69, eX6_sewText_70, eX6_sewText_72, q_isub, eX6_sewText_73, zC_6_216, o_X4_addLetter, eX6_sewText_76, q_iinc_2n, q_iinc_2i, q_iinc_2a, eX6_sewText_79, eX6_sewText_82, q_return, zqe_s, r3, r4, q1, g1]
          refine g_addPatch hs (by omega) (fun M2 w1 w2 => ?_)
          refine zgo [10] ?_
          simp only [↓zX_succ, ↓zstp_nil, ↓zstp_cons, ↓reduceIte, zpu_some, zpu_none, zcs, zg, zst, Nat.reduceAdd, Nat.reduceSub, Nat.reduceMul, Nat.reduceEqDiff, Nat.reduceLeDiff, Nat.reduceLT, Int.reduceToNat, Int.reduceAdd, Int.reduceSub, Int.reduceMul, Int.reduceNeg, Int.reduceLE, Int.reduceLT, Int.reduceEq, Int.cast_ofNat_Int, Int.reduceNatCast', true_and, and_true, and_self, Nat.le_refl, Nat.add_zero, Nat.zero_add, Nat.zero_le, Nat.not_lt_zero, or_true, true_or, or_false, false_or, not_true_eq_false, not_false_eq_true, forall_const, true_implies, false_implies, implies_true, zup_same, zup_zup, Int.toNat_natCast, Nat.reduceDiv, List.length_cons, List.length_nil, Nat.succ_ne_zero, ne_eq, reduceCtorEq, zRl_m6, zRl_m5, zRl_m4, zRl_m3, zRl_m2, zRl_m1, zRl_0, zRl_1, zRl_2, zRl_3, zRl_4, zRl_5, zRl_6, zRl_7, zRl_8, zRl_9, zRl_10, zRl_11, zRl_12, zRl_13, zRl_14, zRl_15, zRl_16, zRl_17, zRl_18, zRl_19, zRl_20, zRl_21, zRl_22, zRl_23, zRl_31, zRl_32, zRl_33, zRl_49, zRl_59, zRl_60, zRl_64, zRl_97, zRl_122, zRl_124, zRl_126, zRl_128, zRl_717809397, zRl_1067285329, zRl_2147483647, o_X6_sewText, r_X6_sewText, eX6_sewText_0, q_aload_0, eX6_sewText_1, q_getfield, zqg_s, zqv_s, zF_6_10, eX6_sewText_4, q_invv, zqo_s, zqc_s, zC_6_206, o_X5_addScroll, zqcv_0, eX6_sewText_7, q_astore_1n, q_astore_1i, q_astore_1a, eX6_sewText_8, q_iconst, eX6_sewText_9, q_istore_2n, q_istore_2i, q_istore_2a, eX6_sewText_10, q_iload_2, eX6_sewText_11, eX6_sewText_12, zF_6_19, eX6_sewText_15, zF_6_179, eX6_sewText_18, q_icmp_ge, eX6_sewText_21, eX6_sewText_22, eX6_sewText_25, eX6_sewText_26, zC_6_210, o_X2_codeAt, zqcv_1, eX6_sewText_29, q_istore_3n, q_istore_3i, q_istore_3a, eX6_sewText_30, q_iload_3, eX6_sewText_31, q_bipush, eX6_sewText_33, q_icmp_ne, eX6_sewText_36, eX6_sewText_37, eX6_sewText_40, eX6_sewText_43, eX6_sewText_44, q_goto, eX6_sewText_47, q_aload_1, eX6_sewText_48, q_ifnull_n, q_ifnull_s, eX6_sewText_51, eX6_sewText_52, eX6_sewText_54, eX6_sewText_57, eX6_sewText_58, zC_6_213, o_X4_addPatch, eX6_sewText_61, eX6_sewText_64, eX6_sewText_65, eX6_sewText_68, eX6_sewText_69, eX6_sewText_70, eX6_sewText_72, q_isub, eX6_sewText_73, zC_6_216, o_X4_addLetter, eX6_sewText_76, q_iinc_2n, q_iinc_2i, q_iinc_2a, eX6_sewText_79, eX6_sewText_82, q_return, zqe_s, r1]
          rw [show (i : Int) + 1 = ((i + 1 : Nat) : Int) by omega]
          exact ih (i + 1) n s (addP t) st' M2 a _ (by omega) (Or.inr ⟨_, rfl⟩) k2 (q3 ▸ ffI_P hI q2.1 q2.2) (by omega) ha1 ha2 w1 (fun M3 t3 f3 s3 => hcont M3 t3 (w2.tr f3) s3) (hf.tr (w2.mono (by omega) (by omega))) he
      · rw [if_pos q1] at he
        rw [if_pos (decide_eq_true q1)] at ez
        rcases hw' with rfl | ⟨z, rfl⟩
        all_goals
          refine zgo [10] ?_
          simp only [↓zX_succ, ↓zstp_nil, ↓zstp_cons, ↓reduceIte, zpu_some, zpu_none, zcs, zg, zst, Nat.reduceAdd, Nat.reduceSub, Nat.reduceMul, Nat.reduceEqDiff, Nat.reduceLeDiff, Nat.reduceLT, Int.reduceToNat, Int.reduceAdd, Int.reduceSub, Int.reduceMul, Int.reduceNeg, Int.reduceLE, Int.reduceLT, Int.reduceEq, Int.cast_ofNat_Int, Int.reduceNatCast', true_and, and_true, and_self, Nat.le_refl, Nat.add_zero, Nat.zero_add, Nat.zero_le, Nat.not_lt_zero, or_true, true_or, or_false, false_or, not_true_eq_false, not_false_eq_true, forall_const, true_implies, false_implies, implies_true, zup_same, zup_zup, Int.toNat_natCast, Nat.reduceDiv, List.length_cons, List.length_nil, Nat.succ_ne_zero, ne_eq, reduceCtorEq, zRl_m6, zRl_m5, zRl_m4, zRl_m3, zRl_m2, zRl_m1, zRl_0, zRl_1, zRl_2, zRl_3, zRl_4, zRl_5, zRl_6, zRl_7, zRl_8, zRl_9, zRl_10, zRl_11, zRl_12, zRl_13, zRl_14, zRl_15, zRl_16, zRl_17, zRl_18, zRl_19, zRl_20, zRl_21, zRl_22, zRl_23, zRl_31, zRl_32, zRl_33, zRl_49, zRl_59, zRl_60, zRl_64, zRl_97, zRl_122, zRl_124, zRl_126, zRl_128, zRl_717809397, zRl_1067285329, zRl_2147483647, o_X6_sewText, r_X6_sewText, eX6_sewText_0, q_aload_0, eX6_sewText_1, q_getfield, zqg_s, zqv_s, zF_6_10, eX6_sewText_4, q_invv, zqo_s, zqc_s, zC_6_206, o_X5_addScroll, zqcv_0, eX6_sewText_7, q_astore_1n, q_astore_1i, q_astore_1a, eX6_sewText_8, q_iconst, eX6_sewText_9, q_istore_2n, q_istore_2i, q_istore_2a, eX6_sewText_10, q_iload_2, eX6_sewText_11, eX6_sewText_12, zF_6_19, eX6_sewText_15, zF_6_179, eX6_sewText_18, q_icmp_ge, eX6_sewText_21, eX6_sewText_22, eX6_sewText_25, eX6_sewText_26, zC_6_210, o_X2_codeAt, zqcv_1, eX6_sewText_29, q_istore_3n, q_istore_3i, q_istore_3a, eX6_sewText_30, q_iload_3, eX6_sewText_31, q_bipush, eX6_sewText_33, q_icmp_ne, eX6_sewText_36, eX6_sewText_37, eX6_sewText_40, eX6_sewText_43, eX6_sewText_44, q_goto, eX6_sewText_47, q_aload_1, eX6_sewText_48, q_ifnull_n, q_ifnull_s, eX6_sewText_51, eX6_sewText_52, eX6_sewText_54, eX6_sewText_57, eX6_sewText_58, zC_6_213, o_X4_addPatch, eX6_sewText_61, eX6_sewText_64, eX6_sewText_65, eX6_sewText_68, eX6_sewText_69, eX6_sewText_70, eX6_sewText_72, q_isub, eX6_sewText_73, zC_6_216, o_X4_addLetter, eX6_sewText_76, q_iinc_2n, q_iinc_2i, q_iinc_2a, eX6_sewText_79, eX6_sewText_82, q_return, zqe_s, r3, r4, q1, g2, p0]
          refine c_addScroll hsh (by omega) (fun M2 a2 w1 w2 w3 w4 w5 => ?_)
          refine zgo [10] ?_
          simp only [↓zX_succ, ↓zstp_nil, ↓zstp_cons, ↓reduceIte, zpu_some, zpu_none, zcs, zg, zst, Nat.reduceAdd, Nat.reduceSub, Nat.reduceMul, Nat.reduceEqDiff, Nat.reduceLeDiff, Nat.reduceLT, Int.reduceToNat, Int.reduceAdd, Int.reduceSub, Int.reduceMul, Int.reduceNeg, Int.reduceLE, Int.reduceLT, Int.reduceEq, Int.cast_ofNat_Int, Int.reduceNatCast', true_and, and_true, and_self, Nat.le_refl, Nat.add_zero, Nat.zero_add, Nat.zero_le, Nat.not_lt_zero, or_true, true_or, or_false, false_or, not_true_eq_false, not_false_eq_true, forall_const, true_implies, false_implies, implies_true, zup_same, zup_zup, Int.toNat_natCast, Nat.reduceDiv, List.length_cons, List.length_nil, Nat.succ_ne_zero, ne_eq, reduceCtorEq, zRl_m6, zRl_m5, zRl_m4, zRl_m3, zRl_m2, zRl_m1, zRl_0, zRl_1, zRl_2, zRl_3, zRl_4, zRl_5, zRl_6, zRl_7, zRl_8, zRl_9, zRl_10, zRl_11, zRl_12, zRl_13, zRl_14, zRl_15, zRl_16, zRl_17, zRl_18, zRl_19, zRl_20, zRl_21, zRl_22, zRl_23, zRl_31, zRl_32, zRl_33, zRl_49, zRl_59, zRl_60, zRl_64, zRl_97, zRl_122, zRl_124, zRl_126, zRl_128, zRl_717809397, zRl_1067285329, zRl_2147483647, o_X6_sewText, r_X6_sewText, eX6_sewText_0, q_aload_0, eX6_sewText_1, q_getfield, zqg_s, zqv_s, zF_6_10, eX6_sewText_4, q_invv, zqo_s, zqc_s, zC_6_206, o_X5_addScroll, zqcv_0, eX6_sewText_7, q_astore_1n, q_astore_1i, q_astore_1a, eX6_sewText_8, q_iconst, eX6_sewText_9, q_istore_2n, q_istore_2i, q_istore_2a, eX6_sewText_10, q_iload_2, eX6_sewText_11, eX6_sewText_12, zF_6_19, eX6_sewText_15, zF_6_179, eX6_sewText_18, q_icmp_ge, eX6_sewText_21, eX6_sewText_22, eX6_sewText_25, eX6_sewText_26, zC_6_210, o_X2_codeAt, zqcv_1, eX6_sewText_29, q_istore_3n, q_istore_3i, q_istore_3a, eX6_sewText_30, q_iload_3, eX6_sewText_31, q_bipush, eX6_sewText_33, q_icmp_ne, eX6_sewText_36, eX6_sewText_37, eX6_sewText_40, eX6_sewText_43, eX6_sewText_44, q_goto, eX6_sewText_47, q_aload_1, eX6_sewText_48, q_ifnull_n, q_ifnull_s, eX6_sewText_51, eX6_sewText_52, eX6_sewText_54, eX6_sewText_57, eX6_sewText_58, zC_6_213, o_X4_addPatch, eX6_sewText_61, eX6_sewText_64, eX6_sewText_65, eX6_sewText_68, eX6_sewText_69, eX6_sewText_70, eX6_sewText_72, q_isub, eX6_sewText_73, zC_6_216, o_X4_addLetter, eX6_sewText_76, q_iinc_2n, q_iinc_2i, q_iinc_2a, eX6_sewText_79, eX6_sewText_82, q_return, zqe_s, r1]
          rw [show (i : Int) + 1 = ((i + 1 : Nat) : Int) by omega]
          refine ih (i + 1) (n + 1) (zu s n t) sc0 st' M2 a2 _ (by omega) (Or.inr ⟨_, rfl⟩) k2 (q3 ▸ ffI_0) (by omega) (by omega) (by omega) ?_ w4 (hf.tr (w5.mono (by omega) (by omega))) he
          obtain ⟨E2, L2, u1, u2⟩ := w3
          exact ⟨E2, L2, u1, fun k hk => by rw [show k = 0 by simp [sc0] at hk; omega, u2]; rfl, fun j hj => by simp [sc0] at hj⟩
  refine zct [some (Sum.inr (Sum.inl (some (x)))), none, none, none] rfl (Nat.le_of_ble_eq_true rfl) (by decide +kernel) rfl ?_
  refine zgo [10] ?_
  simp only [↓zX_succ, ↓zstp_nil, ↓zstp_cons, ↓reduceIte, zpu_some, zpu_none, zcs, zg, zst, Nat.reduceAdd, Nat.reduceSub, Nat.reduceMul, Nat.reduceEqDiff, Nat.reduceLeDiff, Nat.reduceLT, Int.reduceToNat, Int.reduceAdd, Int.reduceSub, Int.reduceMul, Int.reduceNeg, Int.reduceLE, Int.reduceLT, Int.reduceEq, Int.cast_ofNat_Int, Int.reduceNatCast', true_and, and_true, and_self, Nat.le_refl, Nat.add_zero, Nat.zero_add, Nat.zero_le, Nat.not_lt_zero, or_true, true_or, or_false, false_or, not_true_eq_false, not_false_eq_true, forall_const, true_implies, false_implies, implies_true, zup_same, zup_zup, Int.toNat_natCast, Nat.reduceDiv, List.length_cons, List.length_nil, Nat.succ_ne_zero, ne_eq, reduceCtorEq, zRl_m6, zRl_m5, zRl_m4, zRl_m3, zRl_m2, zRl_m1, zRl_0, zRl_1, zRl_2, zRl_3, zRl_4, zRl_5, zRl_6, zRl_7, zRl_8, zRl_9, zRl_10, zRl_11, zRl_12, zRl_13, zRl_14, zRl_15, zRl_16, zRl_17, zRl_18, zRl_19, zRl_20, zRl_21, zRl_22, zRl_23, zRl_31, zRl_32, zRl_33, zRl_49, zRl_59, zRl_60, zRl_64, zRl_97, zRl_122, zRl_124, zRl_126, zRl_128, zRl_717809397, zRl_1067285329, zRl_2147483647, o_X6_sewText, r_X6_sewText, eX6_sewText_0, q_aload_0, eX6_sewText_1, q_getfield, zqg_s, zqv_s, zF_6_10, eX6_sewText_4, q_invv, zqo_s, zqc_s, zC_6_206, o_X5_addScroll, zqcv_0, eX6_sewText_7, q_astore_1n, q_astore_1i, q_astore_1a, eX6_sewText_8, q_iconst, eX6_sewText_9, q_istore_2n, q_istore_2i, q_istore_2a, eX6_sewText_10, q_iload_2, eX6_sewText_11, eX6_sewText_12, zF_6_19, eX6_sewText_15, zF_6_179, eX6_sewText_18, q_icmp_ge, eX6_sewText_21, eX6_sewText_22, eX6_sewText_25, eX6_sewText_26, zC_6_210, o_X2_codeAt, zqcv_1, eX6_sewText_29, q_istore_3n, q_istore_3i, q_istore_3a, eX6_sewText_30, q_iload_3, eX6_sewText_31, q_bipush, eX6_sewText_33, q_icmp_ne, eX6_sewText_36, eX6_sewText_37, eX6_sewText_40, eX6_sewText_43, eX6_sewText_44, q_goto, eX6_sewText_47, q_aload_1, eX6_sewText_48, q_ifnull_n, q_ifnull_s, eX6_sewText_51, eX6_sewText_52, eX6_sewText_54, eX6_sewText_57, eX6_sewText_58, zC_6_213, o_X4_addPatch, eX6_sewText_61, eX6_sewText_64, eX6_sewText_65, eX6_sewText_68, eX6_sewText_69, eX6_sewText_70, eX6_sewText_72, q_isub, eX6_sewText_73, zC_6_216, o_X4_addLetter, eX6_sewText_76, q_iinc_2n, q_iinc_2i, q_iinc_2a, eX6_sewText_79, eX6_sewText_82, q_return, zqe_s, m0, m1]
  refine c_addScroll h2 (by omega) (fun M2 a2 w1 w2 w3 w4 w5 => ?_)
  refine zgo [10] ?_
  simp only [↓zX_succ, ↓zstp_nil, ↓zstp_cons, ↓reduceIte, zpu_some, zpu_none, zcs, zg, zst, Nat.reduceAdd, Nat.reduceSub, Nat.reduceMul, Nat.reduceEqDiff, Nat.reduceLeDiff, Nat.reduceLT, Int.reduceToNat, Int.reduceAdd, Int.reduceSub, Int.reduceMul, Int.reduceNeg, Int.reduceLE, Int.reduceLT, Int.reduceEq, Int.cast_ofNat_Int, Int.reduceNatCast', true_and, and_true, and_self, Nat.le_refl, Nat.add_zero, Nat.zero_add, Nat.zero_le, Nat.not_lt_zero, or_true, true_or, or_false, false_or, not_true_eq_false, not_false_eq_true, forall_const, true_implies, false_implies, implies_true, zup_same, zup_zup, Int.toNat_natCast, Nat.reduceDiv, List.length_cons, List.length_nil, Nat.succ_ne_zero, ne_eq, reduceCtorEq, zRl_m6, zRl_m5, zRl_m4, zRl_m3, zRl_m2, zRl_m1, zRl_0, zRl_1, zRl_2, zRl_3, zRl_4, zRl_5, zRl_6, zRl_7, zRl_8, zRl_9, zRl_10, zRl_11, zRl_12, zRl_13, zRl_14, zRl_15, zRl_16, zRl_17, zRl_18, zRl_19, zRl_20, zRl_21, zRl_22, zRl_23, zRl_31, zRl_32, zRl_33, zRl_49, zRl_59, zRl_60, zRl_64, zRl_97, zRl_122, zRl_124, zRl_126, zRl_128, zRl_717809397, zRl_1067285329, zRl_2147483647, o_X6_sewText, r_X6_sewText, eX6_sewText_0, q_aload_0, eX6_sewText_1, q_getfield, zqg_s, zqv_s, zF_6_10, eX6_sewText_4, q_invv, zqo_s, zqc_s, zC_6_206, o_X5_addScroll, zqcv_0, eX6_sewText_7, q_astore_1n, q_astore_1i, q_astore_1a, eX6_sewText_8, q_iconst, eX6_sewText_9, q_istore_2n, q_istore_2i, q_istore_2a, eX6_sewText_10, q_iload_2, eX6_sewText_11, eX6_sewText_12, zF_6_19, eX6_sewText_15, zF_6_179, eX6_sewText_18, q_icmp_ge, eX6_sewText_21, eX6_sewText_22, eX6_sewText_25, eX6_sewText_26, zC_6_210, o_X2_codeAt, zqcv_1, eX6_sewText_29, q_istore_3n, q_istore_3i, q_istore_3a, eX6_sewText_30, q_iload_3, eX6_sewText_31, q_bipush, eX6_sewText_33, q_icmp_ne, eX6_sewText_36, eX6_sewText_37, eX6_sewText_40, eX6_sewText_43, eX6_sewText_44, q_goto, eX6_sewText_47, q_aload_1, eX6_sewText_48, q_ifnull_n, q_ifnull_s, eX6_sewText_51, eX6_sewText_52, eX6_sewText_54, eX6_sewText_57, eX6_sewText_58, zC_6_213, o_X4_addPatch, eX6_sewText_61, eX6_sewText_64, eX6_sewText_65, eX6_sewText_68, eX6_sewText_69, eX6_sewText_70, eX6_sewText_72, q_isub, eX6_sewText_73, zC_6_216, o_X4_addLetter, eX6_sewText_76, q_iinc_2n, q_iinc_2i, q_iinc_2a, eX6_sewText_79, eX6_sewText_82, q_return, zqe_s]
  refine key pn 0 n0 s0 sc0 (0, 1, 1) M2 a2 none (by omega) (Or.inl rfl) hff ffI_0 (by simp only [zcnt]; omega) (by omega) (by omega) ?_ w4 (w5.mono (by omega) (by omega)) rfl
  obtain ⟨E2, L2, u1, u2⟩ := w3
  exact ⟨E2, L2, u1, fun k hk => by rw [show k = 0 by simp [sc0] at hk; omega, u2]; rfl, fun j hj => by simp [sc0] at hj⟩
theorem p_sew (hc : clG M x A) (hw : wfA A) : zPb lo (d + 12) kX6_sew x [] M (oSew A) := by
  intro Q hQ
  obtain ⟨hx, h2, h3, h4, h5⟩ := id hc
  have m0 := hx.1
  unfold xO at m0
  have m1 := h2.2.1
  have m3 := h4.2.1
  obtain ⟨hpn, C, m2, -, -⟩ := id h3
  have hn5 := h2.1
  have hz := zcnt_le (P := fun j => decide (A.2.1.2 j = 59)) A.2.1.1
  rw [oSew] at hQ
  refine zct [some (Sum.inr (Sum.inl (some (x))))] rfl (Nat.le_of_ble_eq_true rfl) (by decide +kernel) rfl ?_
  refine zgo [] ?_
  simp only [↓zX_succ, ↓zstp_nil, ↓zstp_cons, ↓reduceIte, zpu_some, zpu_none, zcs, zg, zst, Nat.reduceAdd, Nat.reduceSub, Nat.reduceMul, Nat.reduceEqDiff, Nat.reduceLeDiff, Nat.reduceLT, Int.reduceToNat, Int.reduceAdd, Int.reduceSub, Int.reduceMul, Int.reduceNeg, Int.reduceLE, Int.reduceLT, Int.reduceEq, Int.cast_ofNat_Int, Int.reduceNatCast', true_and, and_true, and_self, Nat.le_refl, Nat.add_zero, Nat.zero_add, Nat.zero_le, Nat.not_lt_zero, or_true, true_or, or_false, false_or, not_true_eq_false, not_false_eq_true, forall_const, true_implies, false_implies, implies_true, zup_same, zup_zup, Int.toNat_natCast, Nat.reduceDiv, List.length_cons, List.length_nil, Nat.succ_ne_zero, ne_eq, reduceCtorEq, zRl_m6, zRl_m5, zRl_m4, zRl_m3, zRl_m2, zRl_m1, zRl_0, zRl_1, zRl_2, zRl_3, zRl_4, zRl_5, zRl_6, zRl_7, zRl_8, zRl_9, zRl_10, zRl_11, zRl_12, zRl_13, zRl_14, zRl_15, zRl_16, zRl_17, zRl_18, zRl_19, zRl_20, zRl_21, zRl_22, zRl_23, zRl_31, zRl_32, zRl_33, zRl_49, zRl_59, zRl_60, zRl_64, zRl_97, zRl_122, zRl_124, zRl_126, zRl_128, zRl_717809397, zRl_1067285329, zRl_2147483647, o_X6_sew, r_X6_sew, eX6_sew_0, q_aload_0, eX6_sew_1, q_getfield, zqg_s, zqv_s, zF_6_19, eX6_sew_4, q_invv, zqo_s, zqc_s, zC_6_56, o_X2_firstFault, zqcv_0, eX6_sew_7, q_bipush, eX6_sew_9, q_icmp_eq, eX6_sew_12, eX6_sew_14, q_ireturn, zqi_i, zqi_z, eX6_sew_15, eX6_sew_16, zF_6_10, eX6_sew_19, zF_6_60, eX6_sew_22, eX6_sew_23, eX6_sew_26, zC_6_64, o_X2_scrollsOfText, eX6_sew_29, q_iadd, eX6_sew_30, q_iconst, eX6_sew_31, q_icmp_le, eX6_sew_34, eX6_sew_36, eX6_sew_37, eX6_sew_38, zF_6_26, eX6_sew_41, eX6_sew_42, eX6_sew_45, zC_6_67, o_X1_record, zqcv_1, eX6_sew_48, eX6_sew_49, zC_6_71, o_X6_sewText, eX6_sew_52, eX6_sew_53, eX6_sew_56, zC_6_74, o_X2_empty, eX6_sew_59, eX6_sew_60, eX6_sew_63, eX6_sew_66, m0, m2]
  refine c_firstFault h3 hw.2.1.2 ?_
  have hfr : zRr (ff A.2.1.2 A.2.1.1) := ff_rr hpn
  refine zgo [] ?_
  simp only [↓zX_succ, ↓zstp_nil, ↓zstp_cons, ↓reduceIte, zpu_some, zpu_none, zcs, zg, zst, Nat.reduceAdd, Nat.reduceSub, Nat.reduceMul, Nat.reduceEqDiff, Nat.reduceLeDiff, Nat.reduceLT, Int.reduceToNat, Int.reduceAdd, Int.reduceSub, Int.reduceMul, Int.reduceNeg, Int.reduceLE, Int.reduceLT, Int.reduceEq, Int.cast_ofNat_Int, Int.reduceNatCast', true_and, and_true, and_self, Nat.le_refl, Nat.add_zero, Nat.zero_add, Nat.zero_le, Nat.not_lt_zero, or_true, true_or, or_false, false_or, not_true_eq_false, not_false_eq_true, forall_const, true_implies, false_implies, implies_true, zup_same, zup_zup, Int.toNat_natCast, Nat.reduceDiv, List.length_cons, List.length_nil, Nat.succ_ne_zero, ne_eq, reduceCtorEq, zRl_m6, zRl_m5, zRl_m4, zRl_m3, zRl_m2, zRl_m1, zRl_0, zRl_1, zRl_2, zRl_3, zRl_4, zRl_5, zRl_6, zRl_7, zRl_8, zRl_9, zRl_10, zRl_11, zRl_12, zRl_13, zRl_14, zRl_15, zRl_16, zRl_17, zRl_18, zRl_19, zRl_20, zRl_21, zRl_22, zRl_23, zRl_31, zRl_32, zRl_33, zRl_49, zRl_59, zRl_60, zRl_64, zRl_97, zRl_122, zRl_124, zRl_126, zRl_128, zRl_717809397, zRl_1067285329, zRl_2147483647, o_X6_sew, r_X6_sew, eX6_sew_0, q_aload_0, eX6_sew_1, q_getfield, zqg_s, zqv_s, zF_6_19, eX6_sew_4, q_invv, zqo_s, zqc_s, zC_6_56, o_X2_firstFault, zqcv_0, eX6_sew_7, q_bipush, eX6_sew_9, q_icmp_eq, eX6_sew_12, eX6_sew_14, q_ireturn, zqi_i, zqi_z, eX6_sew_15, eX6_sew_16, zF_6_10, eX6_sew_19, zF_6_60, eX6_sew_22, eX6_sew_23, eX6_sew_26, zC_6_64, o_X2_scrollsOfText, eX6_sew_29, q_iadd, eX6_sew_30, q_iconst, eX6_sew_31, q_icmp_le, eX6_sew_34, eX6_sew_36, eX6_sew_37, eX6_sew_38, zF_6_26, eX6_sew_41, eX6_sew_42, eX6_sew_45, zC_6_67, o_X1_record, zqcv_1, eX6_sew_48, eX6_sew_49, zC_6_71, o_X6_sewText, eX6_sew_52, eX6_sew_53, eX6_sew_56, zC_6_74, o_X2_empty, eX6_sew_59, eX6_sew_60, eX6_sew_63, eX6_sew_66, m0, m1, m2, hfr]
  refine ⟨fun q => ?_, fun q => ?_⟩
  rotate_left
  · rw [if_neg q] at hQ
    exact hQ M hc zfr_rf
  · rw [if_pos q] at hQ
    refine c_scrollsOfText h3 hw.2.1.2 ?_
    have r1 : zRr ((A.1.1 : Int) + (1 + (zcnt (fun j => decide (A.2.1.2 j = 59)) A.2.1.1 : Int))) := zrr (by omega) (by omega)
    refine zgo [] ?_
    simp only [↓zX_succ, ↓zstp_nil, ↓zstp_cons, ↓reduceIte, zpu_some, zpu_none, zcs, zg, zst, Nat.reduceAdd, Nat.reduceSub, Nat.reduceMul, Nat.reduceEqDiff, Nat.reduceLeDiff, Nat.reduceLT, Int.reduceToNat, Int.reduceAdd, Int.reduceSub, Int.reduceMul, Int.reduceNeg, Int.reduceLE, Int.reduceLT, Int.reduceEq, Int.cast_ofNat_Int, Int.reduceNatCast', true_and, and_true, and_self, Nat.le_refl, Nat.add_zero, Nat.zero_add, Nat.zero_le, Nat.not_lt_zero, or_true, true_or, or_false, false_or, not_true_eq_false, not_false_eq_true, forall_const, true_implies, false_implies, implies_true, zup_same, zup_zup, Int.toNat_natCast, Nat.reduceDiv, List.length_cons, List.length_nil, Nat.succ_ne_zero, ne_eq, reduceCtorEq, zRl_m6, zRl_m5, zRl_m4, zRl_m3, zRl_m2, zRl_m1, zRl_0, zRl_1, zRl_2, zRl_3, zRl_4, zRl_5, zRl_6, zRl_7, zRl_8, zRl_9, zRl_10, zRl_11, zRl_12, zRl_13, zRl_14, zRl_15, zRl_16, zRl_17, zRl_18, zRl_19, zRl_20, zRl_21, zRl_22, zRl_23, zRl_31, zRl_32, zRl_33, zRl_49, zRl_59, zRl_60, zRl_64, zRl_97, zRl_122, zRl_124, zRl_126, zRl_128, zRl_717809397, zRl_1067285329, zRl_2147483647, o_X6_sew, r_X6_sew, eX6_sew_0, q_aload_0, eX6_sew_1, q_getfield, zqg_s, zqv_s, zF_6_19, eX6_sew_4, q_invv, zqo_s, zqc_s, zC_6_56, o_X2_firstFault, zqcv_0, eX6_sew_7, q_bipush, eX6_sew_9, q_icmp_eq, eX6_sew_12, eX6_sew_14, q_ireturn, zqi_i, zqi_z, eX6_sew_15, eX6_sew_16, zF_6_10, eX6_sew_19, zF_6_60, eX6_sew_22, eX6_sew_23, eX6_sew_26, zC_6_64, o_X2_scrollsOfText, eX6_sew_29, q_iadd, eX6_sew_30, q_iconst, eX6_sew_31, q_icmp_le, eX6_sew_34, eX6_sew_36, eX6_sew_37, eX6_sew_38, zF_6_26, eX6_sew_41, eX6_sew_42, eX6_sew_45, zC_6_67, o_X1_record, zqcv_1, eX6_sew_48, eX6_sew_49, zC_6_71, o_X6_sewText, eX6_sew_52, eX6_sew_53, eX6_sew_56, zC_6_74, o_X2_empty, eX6_sew_59, eX6_sew_60, eX6_sew_63, eX6_sew_66, m0, m3, r1]
    refine ⟨fun q2 => ?_, fun q2 => ?_⟩
    · rw [if_neg (by omega)] at hQ
      refine c_record h4 h2 hw.1.2 (by omega) (fun M2 w1 w2 => ?_)
      have c2 := hc.rec w1 w2
      have n0 : M2 x = _ := c2.1.1
      refine zgo [] ?_
      simp only [↓zX_succ, ↓zstp_nil, ↓zstp_cons, ↓reduceIte, zpu_some, zpu_none, zcs, zg, zst, Nat.reduceAdd, Nat.reduceSub, Nat.reduceMul, Nat.reduceEqDiff, Nat.reduceLeDiff, Nat.reduceLT, Int.reduceToNat, Int.reduceAdd, Int.reduceSub, Int.reduceMul, Int.reduceNeg, Int.reduceLE, Int.reduceLT, Int.reduceEq, Int.cast_ofNat_Int, Int.reduceNatCast', true_and, and_true, and_self, Nat.le_refl, Nat.add_zero, Nat.zero_add, Nat.zero_le, Nat.not_lt_zero, or_true, true_or, or_false, false_or, not_true_eq_false, not_false_eq_true, forall_const, true_implies, false_implies, implies_true, zup_same, zup_zup, Int.toNat_natCast, Nat.reduceDiv, List.length_cons, List.length_nil, Nat.succ_ne_zero, ne_eq, reduceCtorEq, zRl_m6, zRl_m5, zRl_m4, zRl_m3, zRl_m2, zRl_m1, zRl_0, zRl_1, zRl_2, zRl_3, zRl_4, zRl_5, zRl_6, zRl_7, zRl_8, zRl_9, zRl_10, zRl_11, zRl_12, zRl_13, zRl_14, zRl_15, zRl_16, zRl_17, zRl_18, zRl_19, zRl_20, zRl_21, zRl_22, zRl_23, zRl_31, zRl_32, zRl_33, zRl_49, zRl_59, zRl_60, zRl_64, zRl_97, zRl_122, zRl_124, zRl_126, zRl_128, zRl_717809397, zRl_1067285329, zRl_2147483647, o_X6_sew, r_X6_sew, eX6_sew_0, q_aload_0, eX6_sew_1, q_getfield, zqg_s, zqv_s, zF_6_19, eX6_sew_4, q_invv, zqo_s, zqc_s, zC_6_56, o_X2_firstFault, zqcv_0, eX6_sew_7, q_bipush, eX6_sew_9, q_icmp_eq, eX6_sew_12, eX6_sew_14, q_ireturn, zqi_i, zqi_z, eX6_sew_15, eX6_sew_16, zF_6_10, eX6_sew_19, zF_6_60, eX6_sew_22, eX6_sew_23, eX6_sew_26, zC_6_64, o_X2_scrollsOfText, eX6_sew_29, q_iadd, eX6_sew_30, q_iconst, eX6_sew_31, q_icmp_le, eX6_sew_34, eX6_sew_36, eX6_sew_37, eX6_sew_38, zF_6_26, eX6_sew_41, eX6_sew_42, eX6_sew_45, zC_6_67, o_X1_record, zqcv_1, eX6_sew_48, eX6_sew_49, zC_6_71, o_X6_sewText, eX6_sew_52, eX6_sew_53, eX6_sew_56, zC_6_74, o_X2_empty, eX6_sew_59, eX6_sew_60, eX6_sew_63, eX6_sew_66, n0]
      have hw2 : wfA (rcd A) := wfA_rcd hw
      refine c_sewText c2 hw2 q (by have : (rcd A).1 = A.1 := rfl; rw [this]; have : (rcd A).2.1 = A.2.1 := rfl; rw [this]; omega) (fun M3 w3 w4 => ?_)
      have c3 := c2.shf w3 w4
      have p0 : M3 x = _ := c3.1.1
      obtain ⟨-, C3, p2, -, -⟩ := id c3.2.2.1
      refine zgo [] ?_
      simp only [↓zX_succ, ↓zstp_nil, ↓zstp_cons, ↓reduceIte, zpu_some, zpu_none, zcs, zg, zst, Nat.reduceAdd, Nat.reduceSub, Nat.reduceMul, Nat.reduceEqDiff, Nat.reduceLeDiff, Nat.reduceLT, Int.reduceToNat, Int.reduceAdd, Int.reduceSub, Int.reduceMul, Int.reduceNeg, Int.reduceLE, Int.reduceLT, Int.reduceEq, Int.cast_ofNat_Int, Int.reduceNatCast', true_and, and_true, and_self, Nat.le_refl, Nat.add_zero, Nat.zero_add, Nat.zero_le, Nat.not_lt_zero, or_true, true_or, or_false, false_or, not_true_eq_false, not_false_eq_true, forall_const, true_implies, false_implies, implies_true, zup_same, zup_zup, Int.toNat_natCast, Nat.reduceDiv, List.length_cons, List.length_nil, Nat.succ_ne_zero, ne_eq, reduceCtorEq, zRl_m6, zRl_m5, zRl_m4, zRl_m3, zRl_m2, zRl_m1, zRl_0, zRl_1, zRl_2, zRl_3, zRl_4, zRl_5, zRl_6, zRl_7, zRl_8, zRl_9, zRl_10, zRl_11, zRl_12, zRl_13, zRl_14, zRl_15, zRl_16, zRl_17, zRl_18, zRl_19, zRl_20, zRl_21, zRl_22, zRl_23, zRl_31, zRl_32, zRl_33, zRl_49, zRl_59, zRl_60, zRl_64, zRl_97, zRl_122, zRl_124, zRl_126, zRl_128, zRl_717809397, zRl_1067285329, zRl_2147483647, o_X6_sew, r_X6_sew, eX6_sew_0, q_aload_0, eX6_sew_1, q_getfield, zqg_s, zqv_s, zF_6_19, eX6_sew_4, q_invv, zqo_s, zqc_s, zC_6_56, o_X2_firstFault, zqcv_0, eX6_sew_7, q_bipush, eX6_sew_9, q_icmp_eq, eX6_sew_12, eX6_sew_14, q_ireturn, zqi_i, zqi_z, eX6_sew_15, eX6_sew_16, zF_6_10, eX6_sew_19, zF_6_60, eX6_sew_22, eX6_sew_23, eX6_sew_26, zC_6_64, o_X2_scrollsOfText, eX6_sew_29, q_iadd, eX6_sew_30, q_iconst, eX6_sew_31, q_icmp_le, eX6_sew_34, eX6_sew_36, eX6_sew_37, eX6_sew_38, zF_6_26, eX6_sew_41, eX6_sew_42, eX6_sew_45, zC_6_67, o_X1_record, zqcv_1, eX6_sew_48, eX6_sew_49, zC_6_71, o_X6_sewText, eX6_sew_52, eX6_sew_53, eX6_sew_56, zC_6_74, o_X2_empty, eX6_sew_59, eX6_sew_60, eX6_sew_63, eX6_sew_66, p0, p2]
      refine c_padEmpty c3.2.2.1 (fun M4 w5 w6 => ?_)
      have c4 := c3.pad w5 w6
      have t0 : M4 x = _ := c4.1.1
      have t1 : M4 (x + 1) = _ := c4.2.1.2.1
      refine zgo [] ?_
      simp only [↓zX_succ, ↓zstp_nil, ↓zstp_cons, ↓reduceIte, zpu_some, zpu_none, zcs, zg, zst, Nat.reduceAdd, Nat.reduceSub, Nat.reduceMul, Nat.reduceEqDiff, Nat.reduceLeDiff, Nat.reduceLT, Int.reduceToNat, Int.reduceAdd, Int.reduceSub, Int.reduceMul, Int.reduceNeg, Int.reduceLE, Int.reduceLT, Int.reduceEq, Int.cast_ofNat_Int, Int.reduceNatCast', true_and, and_true, and_self, Nat.le_refl, Nat.add_zero, Nat.zero_add, Nat.zero_le, Nat.not_lt_zero, or_true, true_or, or_false, false_or, not_true_eq_false, not_false_eq_true, forall_const, true_implies, false_implies, implies_true, zup_same, zup_zup, Int.toNat_natCast, Nat.reduceDiv, List.length_cons, List.length_nil, Nat.succ_ne_zero, ne_eq, reduceCtorEq, zRl_m6, zRl_m5, zRl_m4, zRl_m3, zRl_m2, zRl_m1, zRl_0, zRl_1, zRl_2, zRl_3, zRl_4, zRl_5, zRl_6, zRl_7, zRl_8, zRl_9, zRl_10, zRl_11, zRl_12, zRl_13, zRl_14, zRl_15, zRl_16, zRl_17, zRl_18, zRl_19, zRl_20, zRl_21, zRl_22, zRl_23, zRl_31, zRl_32, zRl_33, zRl_49, zRl_59, zRl_60, zRl_64, zRl_97, zRl_122, zRl_124, zRl_126, zRl_128, zRl_717809397, zRl_1067285329, zRl_2147483647, o_X6_sew, r_X6_sew, eX6_sew_0, q_aload_0, eX6_sew_1, q_getfield, zqg_s, zqv_s, zF_6_19, eX6_sew_4, q_invv, zqo_s, zqc_s, zC_6_56, o_X2_firstFault, zqcv_0, eX6_sew_7, q_bipush, eX6_sew_9, q_icmp_eq, eX6_sew_12, eX6_sew_14, q_ireturn, zqi_i, zqi_z, eX6_sew_15, eX6_sew_16, zF_6_10, eX6_sew_19, zF_6_60, eX6_sew_22, eX6_sew_23, eX6_sew_26, zC_6_64, o_X2_scrollsOfText, eX6_sew_29, q_iadd, eX6_sew_30, q_iconst, eX6_sew_31, q_icmp_le, eX6_sew_34, eX6_sew_36, eX6_sew_37, eX6_sew_38, zF_6_26, eX6_sew_41, eX6_sew_42, eX6_sew_45, zC_6_67, o_X1_record, zqcv_1, eX6_sew_48, eX6_sew_49, zC_6_71, o_X6_sewText, eX6_sew_52, eX6_sew_53, eX6_sew_56, zC_6_74, o_X2_empty, eX6_sew_59, eX6_sew_60, eX6_sew_63, eX6_sew_66, t0, t1]
      exact hQ M4 c4 (((w2.mono (by omega) (by omega)).tr (w4.mono (by omega) (by omega))).tr (w6.mono (by omega) (by omega)))
    · rw [if_pos (by omega)] at hQ
      exact hQ M hc zfr_rf
end SW
