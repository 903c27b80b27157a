-- WHAT THE LAW HOLDS: the object at x, behind it its rows: scrolls, one for trials, numbers, numbers
theorem clG.keepO {M M' : zM} {x l h : Nat} {A : aS} (hs : clG M x A) (hf : zfr M M' l h) (hd : x + 174 ≤ l ∨ h ≤ x) : clG M' x A := by
  obtain ⟨h1, h2, h3, h4, ⟨g, h5, h6⟩, ⟨B, h7, h8⟩, ⟨h9, h10⟩, h11, h12⟩ := hs
  exact ⟨h1.keep hf (by omega), h2.keep hf (by omega), h3.keep hf (by omega), h4.keep hf (by omega), ⟨g, (hf _ (by omega)).trans h5, h6⟩, ⟨B, (hf _ (by omega)).trans h7, h8⟩, ⟨h9.keep hf (by omega), fun e => (h10 e).keep hf (by omega)⟩, h11.keep hf (by omega), fun e => (h12 e).keep hf (by omega)⟩
def lwM (M : zM) (x : Nat) (A : aS) (S T Oa Ob : Nat → Int) : Prop := clG M x A ∧ M (x + 174) = some (Sum.inr (0, 60, Sum.inl (S))) ∧ M (x + 175) = some (Sum.inr (0, 20, Sum.inl (T))) ∧ M (x + 176) = some (Sum.inr (4, 64, Sum.inl (Oa))) ∧ M (x + 177) = some (Sum.inr (4, 64, Sum.inl (Ob)))
section LM
variable {M M' : zM} {x : Nat} {A A' : aS} {S T Oa Ob : Nat → Int}
theorem lwM.o (h : lwM M x A S T Oa Ob) : M x = some (Sum.inl (6, [(Sum.inr (Sum.inl (some (x + 1)))), (Sum.inr (Sum.inl (some (x + 18)))), (Sum.inr (Sum.inl (some (x + 20)))), (Sum.inr (Sum.inl (some (x + 124)))), (Sum.inr (Sum.inl (some (x + 125)))), (Sum.inr (Sum.inl (some (x + 126)))), (Sum.inr (Sum.inl (some (x + 136)))), (Sum.inr (Sum.inl (some (x + 139))))])) := h.1.1.1
theorem lwM.s (h : lwM M x A S T Oa Ob) : M (x + 174) = some (Sum.inr (0, 60, Sum.inl (S))) := h.2.1
theorem lwM.t (h : lwM M x A S T Oa Ob) : M (x + 175) = some (Sum.inr (0, 20, Sum.inl (T))) := h.2.2.1
theorem lwM.a (h : lwM M x A S T Oa Ob) : M (x + 176) = some (Sum.inr (4, 64, Sum.inl (Oa))) := h.2.2.2.1
theorem lwM.b (h : lwM M x A S T Oa Ob) : M (x + 177) = some (Sum.inr (4, 64, Sum.inl (Ob))) := h.2.2.2.2
theorem lwM.q (h : lwM M x A S T Oa Ob) (hc : clG M' x A') (hf : zfr M M' x (x + 174)) : lwM M' x A' S T Oa Ob := ⟨hc, (hf _ (by omega)).trans h.s, (hf _ (by omega)).trans h.t, (hf _ (by omega)).trans h.a, (hf _ (by omega)).trans h.b⟩
theorem lwM.cs {S' : Nat → Int} (h : lwM M x A S T Oa Ob) (hs : M' (x + 174) = some (Sum.inr (0, 60, Sum.inl (S')))) (hf : zfr M M' (x + 174) (x + 174 + 1)) : lwM M' x A S' T Oa Ob := ⟨h.1.keepO hf (by omega), hs, (hf _ (by omega)).trans h.t, (hf _ (by omega)).trans h.a, (hf _ (by omega)).trans h.b⟩
theorem lwM.ct {T' : Nat → Int} (h : lwM M x A S T Oa Ob) (hs : M' (x + 175) = some (Sum.inr (0, 20, Sum.inl (T')))) (hf : zfr M M' (x + 175) (x + 175 + 1)) : lwM M' x A S T' Oa Ob := ⟨h.1.keepO hf (by omega), (hf _ (by omega)).trans h.s, hs, (hf _ (by omega)).trans h.a, (hf _ (by omega)).trans h.b⟩
theorem lwM.ca {O' : Nat → Int} (h : lwM M x A S T Oa Ob) (hs : M' (x + 176) = some (Sum.inr (4, 64, Sum.inl (O')))) (hf : zfr M M' (x + 176) (x + 176 + 1)) : lwM M' x A S T O' Ob := ⟨h.1.keepO hf (by omega), (hf _ (by omega)).trans h.s, (hf _ (by omega)).trans h.t, hs, (hf _ (by omega)).trans h.b⟩
theorem lwM.cb {O' : Nat → Int} (h : lwM M x A S T Oa Ob) (hs : M' (x + 177) = some (Sum.inr (4, 64, Sum.inl (O')))) (hf : zfr M M' (x + 177) (x + 177 + 1)) : lwM M' x A S T Oa O' := ⟨h.1.keepO hf (by omega), (hf _ (by omega)).trans h.s, (hf _ (by omega)).trans h.t, (hf _ (by omega)).trans h.a, hs⟩
end LM
/-- the law's numbers and what the object holds are the same scrolls -/
def lwI (A : aS) (S : Nat → Int) (n : Nat) : Prop := A.1.1 = n ∧ n ≤ 3 ∧ wfA A ∧ ∀ i, i < n → scR S (20 * i) (A.1.2 i) ∧ (A.1.2 i).2.1 (A.1.2 i).1 ≤ 10
section LI
variable {A : aS} {S : Nat → Int} {n i : Nat}
theorem lwI.b (h : lwI A S n) (hi : i < n) : wB (A.1.2 i) := h.2.2.1.1.2 i (by rw [h.1]; exact hi)
theorem lwI.w (h : lwI A S n) (hi : i < n) : wL (A.1.2 i) := ⟨(h.b hi).1, (h.2.2.2 i hi).2⟩
theorem lwI.p (h : lwI A S n) (hi : i < n) : (A.1.2 i).1 ≤ 5 := (h.b hi).2.1
theorem lwI.r (h : lwI A S n) (hi : i < n) : scR S (20 * i) (A.1.2 i) := (h.2.2.2 i hi).1
theorem lwI.n1 (h : lwI A S n) : A.1.1 = n := h.1
theorem lwI.n3 (h : lwI A S n) : n ≤ 3 := h.2.1
theorem lwI.f (h : lwI A S n) : wfA A := h.2.2.1
end LI
theorem wL_und {t : Sc} {p : Nat} (hw : wL t) (hp : p + 1 < t.1) : wL (scU t p) := by
  refine ⟨wS_und hw.1 hp, ?_⟩
  show bUnd t.2.1 p (t.1 - 1) ≤ 10
  rw [bUnd, if_neg (by omega), show t.1 - 1 + 1 = t.1 by omega]
  exact hw.2
theorem und_len {t : Sc} {p : Nat} (hp : p + 1 < t.1) : (scU t p).2.1 (scU t p).1 = t.2.1 t.1 := by
  show bUnd t.2.1 p (t.1 - 1) = t.2.1 t.1
  rw [bUnd, if_neg (by omega), show t.1 - 1 + 1 = t.1 by omega]
theorem wL_cut {t : Sc} {k y : Nat} (hw : wL t) (hk : k < t.1) (hp : t.1 ≤ 5) (h1 : 1 ≤ y) (h2 : y < szP t k) : wL (scC t k y) := by
  refine ⟨wS_cut hw.1 hk hp h1 h2, ?_⟩
  show bCut t.2.1 k y (t.1 + 1) ≤ 10
  rw [bCut, if_neg (by omega)]
  by_cases c : t.1 + 1 = k + 1
  · omega
  · rw [if_neg c, show t.1 + 1 - 1 = t.1 by omega]
    exact hw.2
