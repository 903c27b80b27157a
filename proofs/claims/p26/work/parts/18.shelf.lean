/-- a scroll's words: patches, boundaries, letters -/
abbrev Sc : Type := Nat × (Nat → Nat) × (Nat → Int)
def wB (s : Sc) : Prop := wS s.1 s.2.1 s.2.2 ∧ s.1 ≤ 5 ∧ ∀ k, k < s.1 → s.2.1 (k + 1) ≤ s.2.1 k + 12
/-- a shelf at h: its row at h + 1, its five scrolls behind, in some order -/
def shG (M : zM) (h n : Nat) (s : Nat → Sc) : Prop := n ≤ 5 ∧ M h = some (Sum.inl (5, [(Sum.inr (Sum.inl (some (h + 1)))), (Sum.inl ((n : Int)))])) ∧ ∃ (g : Nat → Option Nat) (π : Nat → Nat), M (h + 1) = some (Sum.inr (2, 5, Sum.inr (g))) ∧ (∀ i, i < 5 → g i = some (h + 2 + 3 * π i) ∧ π i < 5) ∧ (∀ i j, i < 5 → j < 5 → π i = π j → i = j) ∧ (∀ k, k < 5 → sAny M (h + 2 + 3 * k)) ∧ ∀ i, i < n → sG M (h + 2 + 3 * π i) (s i).1 (s i).2.1 (s i).2.2
/-- scroll i lies at a -/
def shAt (M : zM) (h i a : Nat) : Prop := ∃ g, M (h + 1) = some (Sum.inr (2, 5, Sum.inr (g))) ∧ g i = some a
theorem shAt.un {M : zM} {h i a a' : Nat} (h1 : shAt M h i a) (h2 : shAt M h i a') : a = a' := by
  obtain ⟨g, e1, e2⟩ := h1
  obtain ⟨g', e3, e4⟩ := h2
  have : g = g' := by rw [e1] at e3; simpa using e3
  subst this
  rw [e2] at e4
  exact Option.some.inj e4
theorem shG.at_ {M : zM} {h n i : Nat} {s : Nat → Sc} (hs : shG M h n s) (hi : i < 5) : ∃ a, shAt M h i a ∧ h + 2 ≤ a ∧ a + 3 ≤ h + 17 ∧ sAny M a ∧ (i < n → sG M a (s i).1 (s i).2.1 (s i).2.2) := by
  obtain ⟨hn, h1, g, π, h2, h3, h4, h5, h6⟩ := hs
  have := (h3 i hi).2
  exact ⟨_, ⟨g, h2, (h3 i hi).1⟩, by omega, by omega, h5 _ this, fun q => h6 i q⟩
theorem shG.keep {M M' : zM} {h n l r : Nat} {s : Nat → Sc} (hs : shG M h n s) (hf : zfr M M' l r) (hd : h + 17 ≤ l ∨ r ≤ h) : shG M' h n s := by
  obtain ⟨hn, h1, g, π, h2, h3, h4, h5, h6⟩ := hs
  refine ⟨hn, (hf _ (by omega)).trans h1, g, π, (hf _ (by omega)).trans h2, h3, h4, fun k hk => (h5 k hk).keep hf (by omega), fun i hi => (h6 i hi).keep hf ?_⟩
  have := (h3 i (by omega)).2
  omega
theorem shAt.keep {M M' : zM} {h i a l r : Nat} (hs : shAt M h i a) (hf : zfr M M' l r) (hd : h + 2 ≤ l ∨ r ≤ h + 1) : shAt M' h i a := by
  obtain ⟨g, e1, e2⟩ := hs
  exact ⟨g, (hf _ (by omega)).trans e1, e2⟩
/-- scroll i is written -/
theorem shG.upd {M M' : zM} {h n i a : Nat} {s : Nat → Sc} {t : Sc} (hs : shG M h n s) (ha : shAt M h i a) (hi : i < n) (hf : zfr M M' a (a + 3)) (ht : sG M' a t.1 t.2.1 t.2.2) : shG M' h n (zu s i t) := by
  obtain ⟨hn, h1, g, π, h2, h3, h4, h5, h6⟩ := hs
  obtain ⟨g', e1, e2⟩ := ha
  have eg : g = g' := by rw [h2] at e1; simpa using e1
  subst eg
  have ea : a = h + 2 + 3 * π i := by
    rw [(h3 i (by omega)).1] at e2
    exact (Option.some.inj e2).symm
  have hpi := (h3 i (by omega)).2
  refine ⟨hn, (hf _ (by omega)).trans h1, g, π, (hf _ (by omega)).trans h2, h3, h4, fun k hk => ?_, fun j hj => ?_⟩
  · by_cases c : k = π i
    · subst c
      rw [← ea]
      exact ht.any
    · exact (h5 k hk).keep hf (by omega)
  · by_cases c : j = i
    · subst c
      rw [zu_same, ← ea]
      exact ht
    · rw [zu_ne c]
      refine (h6 j hj).keep hf ?_
      have : π j ≠ π i := fun q => c (h4 j i (by omega) (by omega) q)
      omega
theorem shG.cg {M : zM} {h n : Nat} {s s' : Nat → Sc} (hs : shG M h n s) (e : ∀ i, i < n → s i = s' i) : shG M h n s' := by
  obtain ⟨hn, h1, g, π, h2, h3, h4, h5, h6⟩ := hs
  exact ⟨hn, h1, g, π, h2, h3, h4, h5, fun i hi => by rw [← e i hi]; exact h6 i hi⟩
section SH
variable {lo d h n : Nat} {s : Nat → Sc} {M : zM} {Q : Option zV → zM → Prop}
theorem c_at {x : Int} (hs : shG M h n s) (hx : zRr x) (hQ1 : ∀ (i a : Nat), x = (i : Int) → i < n → shAt M h i a → h + 2 ≤ a → a + 3 ≤ h + 17 → sG M a (s i).1 (s i).2.1 (s i).2.2 → Q (some (Sum.inr (Sum.inl (some (a))))) M) (hQ0 : ¬ (0 ≤ x ∧ x < (n : Int)) → Q (some (Sum.inr (Sum.inl none))) M) : zCt lo d kX5_at 0 0 [(Sum.inr (Sum.inl (some (h)))), (Sum.inl (x))] M Q := by
  obtain ⟨hn, h1, g, π, h2, h3, h4, h5, h6⟩ := id hs
  have hnr : zRr (n : Int) := zrr (by omega) (by omega)
  refine zct [some (Sum.inr (Sum.inl (some (h)))), some (Sum.inl (x))] rfl (Nat.le_of_ble_eq_true rfl) (by decide +kernel) rfl ?_
  by_cases c : 0 ≤ x ∧ x < (n : Int)
  · obtain ⟨a, a1, a2, a3, -, a5⟩ := hs.at_ (i := x.toNat) (by omega)
    obtain ⟨g', e1, e2⟩ := id a1
    have eg : g = g' := by rw [h2] at e1; simpa using e1
    subst eg
    refine zgo [] ?_
    simp only [↓zX_succ, ↓zstp_nil, ↓zstp_cons, ↓reduceIte, zpu_some, zpu_none, zcs, zg, zst, Nat.reduceAdd, Nat.reduceSub, Nat.reduceMul, Nat.reduceEqDiff, Nat.reduceLeDiff, Nat.reduceLT, Int.reduceToNat, Int.reduceAdd, Int.reduceSub, Int.reduceMul, Int.reduceNeg, Int.reduceLE, Int.reduceLT, Int.reduceEq, Int.cast_ofNat_Int, Int.reduceNatCast', true_and, and_true, and_self, Nat.le_refl, Nat.add_zero, Nat.zero_add, Nat.zero_le, Nat.not_lt_zero, or_true, true_or, or_false, false_or, not_true_eq_false, not_false_eq_true, forall_const, true_implies, false_implies, implies_true, zup_same, zup_zup, Int.toNat_natCast, Nat.reduceDiv, List.length_cons, List.length_nil, Nat.succ_ne_zero, ne_eq, reduceCtorEq, zRl_m6, zRl_m5, zRl_m4, zRl_m3, zRl_m2, zRl_m1, zRl_0, zRl_1, zRl_2, zRl_3, zRl_4, zRl_5, zRl_6, zRl_7, zRl_8, zRl_9, zRl_10, zRl_11, zRl_12, zRl_13, zRl_14, zRl_15, zRl_16, zRl_17, zRl_18, zRl_19, zRl_20, zRl_21, zRl_22, zRl_23, zRl_31, zRl_32, zRl_33, zRl_49, zRl_59, zRl_60, zRl_64, zRl_97, zRl_122, zRl_124, zRl_126, zRl_128, zRl_717809397, zRl_1067285329, zRl_2147483647, o_X5_at, r_X5_at, eX5_at_0, q_iload_1, eX5_at_1, q_if_lt, eX5_at_4, eX5_at_5, q_aload_0, eX5_at_6, q_getfield, zqg_s, zqv_s, zF_5_18, eX5_at_9, q_icmp_ge, eX5_at_12, eX5_at_13, q_iconst, eX5_at_14, eX5_at_17, eX5_at_18, zF_5_11, eX5_at_21, eX5_at_22, q_aaload, zqql_s, eX5_at_23, q_goto, eX5_at_26, q_null, eX5_at_27, q_areturn, zqa_s, h1, h2, hx, hnr, e2]
    refine ⟨fun q => by omega, fun _ => ⟨fun q => by omega, fun _ => ⟨fun q => by omega, fun _ => ⟨by omega, by omega, ?_⟩⟩⟩⟩
    exact hQ1 x.toNat a (by omega) (by omega) a1 a2 a3 (a5 (by omega))
  · refine zgo [12] ?_
    simp only [↓zX_succ, ↓zstp_nil, ↓zstp_cons, ↓reduceIte, zpu_some, zpu_none, zcs, zg, zst, Nat.reduceAdd, Nat.reduceSub, Nat.reduceMul, Nat.reduceEqDiff, Nat.reduceLeDiff, Nat.reduceLT, Int.reduceToNat, Int.reduceAdd, Int.reduceSub, Int.reduceMul, Int.reduceNeg, Int.reduceLE, Int.reduceLT, Int.reduceEq, Int.cast_ofNat_Int, Int.reduceNatCast', true_and, and_true, and_self, Nat.le_refl, Nat.add_zero, Nat.zero_add, Nat.zero_le, Nat.not_lt_zero, or_true, true_or, or_false, false_or, not_true_eq_false, not_false_eq_true, forall_const, true_implies, false_implies, implies_true, zup_same, zup_zup, Int.toNat_natCast, Nat.reduceDiv, List.length_cons, List.length_nil, Nat.succ_ne_zero, ne_eq, reduceCtorEq, zRl_m6, zRl_m5, zRl_m4, zRl_m3, zRl_m2, zRl_m1, zRl_0, zRl_1, zRl_2, zRl_3, zRl_4, zRl_5, zRl_6, zRl_7, zRl_8, zRl_9, zRl_10, zRl_11, zRl_12, zRl_13, zRl_14, zRl_15, zRl_16, zRl_17, zRl_18, zRl_19, zRl_20, zRl_21, zRl_22, zRl_23, zRl_31, zRl_32, zRl_33, zRl_49, zRl_59, zRl_60, zRl_64, zRl_97, zRl_122, zRl_124, zRl_126, zRl_128, zRl_717809397, zRl_1067285329, zRl_2147483647, o_X5_at, r_X5_at, eX5_at_0, q_iload_1, eX5_at_1, q_if_lt, eX5_at_4, eX5_at_5, q_aload_0, eX5_at_6, q_getfield, zqg_s, zqv_s, zF_5_18, eX5_at_9, q_icmp_ge, eX5_at_12, eX5_at_13, q_iconst, eX5_at_14, eX5_at_17, eX5_at_18, zF_5_11, eX5_at_21, eX5_at_22, q_aaload, zqql_s, eX5_at_23, q_goto, eX5_at_26, q_null, eX5_at_27, q_areturn, zqa_s, h1, h2, hx, hnr]
    exact ⟨fun q => hQ0 c, fun _ => ⟨fun q => hQ0 c, fun q => by omega⟩⟩
/-- a shelf's scroll, where it is known to be -/
theorem c_atN {i : Nat} (hs : shG M h n s) (hi : i < n) (hQ1 : ∀ a, shAt M h i a → h + 2 ≤ a → a + 3 ≤ h + 17 → sG M a (s i).1 (s i).2.1 (s i).2.2 → Q (some (Sum.inr (Sum.inl (some (a))))) M) : zCt lo d kX5_at 0 0 [(Sum.inr (Sum.inl (some (h)))), (Sum.inl ((i : Int)))] M Q := by
  have hn := hs.1
  refine c_at hs (zrr (by omega) (by omega)) (fun j a e q1 q2 q3 q4 q5 => ?_) (fun q => by omega)
  have : i = j := by omega
  subst this
  exact hQ1 a q2 q3 q4 q5
/-- the size alone is written -/
theorem shG.size {n' : Nat} (hs : shG M h n s) (hn' : n' ≤ n) : shG (zup M h (Sum.inl (5, [(Sum.inr (Sum.inl (some (h + 1)))), (Sum.inl ((n' : Int)))]))) h n' s := by
  obtain ⟨hn, h1, g, π, h2, h3, h4, h5, h6⟩ := hs
  refine ⟨by omega, zup_same, g, π, by rw [zup_ne (by omega)]; exact h2, h3, h4, fun k hk => (h5 k hk).keep (zfr_up (l := h) (h := h + 1) (by omega) (by omega)) (by omega), fun i hi => (h6 i (by omega)).keep (zfr_up (l := h) (h := h + 1) (by omega) (by omega)) (by omega)⟩
/-- one more scroll, which is being made at a -/
theorem shG.grow (hs : shG M h n s) (hn5 : n < 5) {a : Nat} (ha : shAt M h n a) {M2 : zM} {t : Sc} (hf : zfr (zup M h (Sum.inl (5, [(Sum.inr (Sum.inl (some (h + 1)))), (Sum.inl ((n : Int) + 1))]))) M2 a (a + 3)) (ht : sG M2 a t.1 t.2.1 t.2.2) : shG M2 h (n + 1) (zu s n t) := by
  obtain ⟨hn, h1, g, π, h2, h3, h4, h5, h6⟩ := hs
  obtain ⟨g', e1, e2⟩ := ha
  have eg : g = g' := by rw [h2] at e1; simpa using e1
  subst eg
  have ea : a = h + 2 + 3 * π n := by
    rw [(h3 n (by omega)).1] at e2
    exact (Option.some.inj e2).symm
  have hpi := (h3 n (by omega)).2
  have f1 : zfr M (zup M h (Sum.inl (5, [(Sum.inr (Sum.inl (some (h + 1)))), (Sum.inl ((n : Int) + 1))]))) h (h + 1) := zfr_up (by omega) (by omega)
  refine ⟨by omega, ?_, g, π, ?_, h3, h4, fun k hk => ?_, fun i hi => ?_⟩
  · rw [hf _ (by omega), zup_same]
    simp
  · rw [hf _ (by omega), zup_ne (by omega)]
    exact h2
  · by_cases c : k = π n
    · subst c
      rw [← ea]
      exact ht.any
    · exact ((h5 k hk).keep f1 (by omega)).keep hf (by omega)
  · by_cases c : i = n
    · subst c
      rw [zu_same, ← ea]
      exact ht
    · rw [zu_ne c]
      have : π i ≠ π n := fun q => c (h4 i n (by omega) (by omega) q)
      exact ((h6 i (by omega)).keep f1 (by omega)).keep hf (by omega)
theorem c_atR {i n' : Nat} {a : Nat} {g : Nat → Option Nat} (h1 : M h = some (Sum.inl (5, [(Sum.inr (Sum.inl (some (h + 1)))), (Sum.inl ((n' : Int)))]))) (h2 : M (h + 1) = some (Sum.inr (2, 5, Sum.inr (g)))) (hi : i < n') (hn' : n' ≤ 5) (e2 : g i = some a) (hQ : Q (some (Sum.inr (Sum.inl (some (a))))) M) : zCt lo d kX5_at 0 0 [(Sum.inr (Sum.inl (some (h)))), (Sum.inl ((i : Int)))] M Q := by
  have hnr : zRr (n' : Int) := zrr (by omega) (by omega)
  have hir : zRr (i : Int) := zrr (by omega) (by omega)
  refine zct [some (Sum.inr (Sum.inl (some (h)))), some (Sum.inl ((i : Int)))] rfl (Nat.le_of_ble_eq_true rfl) (by decide +kernel) rfl ?_
  refine zgo [] ?_
  simp only [↓zX_succ, ↓zstp_nil, ↓zstp_cons, ↓reduceIte, zpu_some, zpu_none, zcs, zg, zst, Nat.reduceAdd, Nat.reduceSub, Nat.reduceMul, Nat.reduceEqDiff, Nat.reduceLeDiff, Nat.reduceLT, Int.reduceToNat, Int.reduceAdd, Int.reduceSub, Int.reduceMul, Int.reduceNeg, Int.reduceLE, Int.reduceLT, Int.reduceEq, Int.cast_ofNat_Int, Int.reduceNatCast', true_and, and_true, and_self, Nat.le_refl, Nat.add_zero, Nat.zero_add, Nat.zero_le, Nat.not_lt_zero, or_true, true_or, or_false, false_or, not_true_eq_false, not_false_eq_true, forall_const, true_implies, false_implies, implies_true, zup_same, zup_zup, Int.toNat_natCast, Nat.reduceDiv, List.length_cons, List.length_nil, Nat.succ_ne_zero, ne_eq, reduceCtorEq, zRl_m6, zRl_m5, zRl_m4, zRl_m3, zRl_m2, zRl_m1, zRl_0, zRl_1, zRl_2, zRl_3, zRl_4, zRl_5, zRl_6, zRl_7, zRl_8, zRl_9, zRl_10, zRl_11, zRl_12, zRl_13, zRl_14, zRl_15, zRl_16, zRl_17, zRl_18, zRl_19, zRl_20, zRl_21, zRl_22, zRl_23, zRl_31, zRl_32, zRl_33, zRl_49, zRl_59, zRl_60, zRl_64, zRl_97, zRl_122, zRl_124, zRl_126, zRl_128, zRl_717809397, zRl_1067285329, zRl_2147483647, o_X5_at, r_X5_at, eX5_at_0, q_iload_1, eX5_at_1, q_if_lt, eX5_at_4, eX5_at_5, q_aload_0, eX5_at_6, q_getfield, zqg_s, zqv_s, zF_5_18, eX5_at_9, q_icmp_ge, eX5_at_12, eX5_at_13, q_iconst, eX5_at_14, eX5_at_17, eX5_at_18, zF_5_11, eX5_at_21, eX5_at_22, q_aaload, zqql_s, eX5_at_23, q_goto, eX5_at_26, q_null, eX5_at_27, q_areturn, zqa_s, h1, h2, hir, hnr, e2]
  exact ⟨fun q => by omega, fun _ => ⟨fun q => by omega, fun _ => ⟨fun q => by omega, fun _ => ⟨by omega, by omega, hQ⟩⟩⟩⟩
end SH
