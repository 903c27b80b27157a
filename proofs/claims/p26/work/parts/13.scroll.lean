/-- a scroll in words: p patches, patch k from b k to b (k + 1), the letters f -/
def sG (M : zM) (a p : Nat) (b : Nat → Nat) (f : Nat → Int) : Prop := ∃ E L, sAt M a (p : Int) E L ∧ (∀ k, k < p → E k = (b (k + 1) : Int)) ∧ ∀ j, j < b p → L j = f j
def wS (p : Nat) (b : Nat → Nat) (f : Nat → Int) : Prop := 1 ≤ p ∧ p ≤ 6 ∧ b 0 = 0 ∧ (∀ k, k < p → b k < b (k + 1)) ∧ b p ≤ 60 ∧ zB f 0 (b p)
theorem wS.le {p : Nat} {b : Nat → Nat} {f : Nat → Int} (h : wS p b f) : ∀ {j k : Nat}, j ≤ k → k ≤ p → b j ≤ b k := by
  intro j k hjk
  induction k with
  | zero => intro _; rw [show j = 0 by omega]; exact Nat.le_refl _
  | succ k ih =>
    intro hk
    by_cases e : j = k + 1
    · rw [e]; exact Nat.le_refl _
    · have h1 := ih (by omega) (by omega)
      have h2 := h.2.2.2.1 k (by omega)
      omega
theorem wS.top {p : Nat} {b : Nat → Nat} {f : Nat → Int} (h : wS p b f) {k : Nat} (hk : k ≤ p) : b k ≤ 60 := Nat.le_trans (h.le hk (Nat.le_refl p)) h.2.2.2.2.1
theorem wS.bl {p : Nat} {b : Nat → Nat} {f : Nat → Int} (h : wS p b f) {k j : Nat} (hk : k ≤ p) (hj : j < b k) : 0 ≤ f j ∧ f j ≤ 25 := h.2.2.2.2.2 j (Nat.zero_le j) (Nat.lt_of_lt_of_le hj (h.le hk (Nat.le_refl p)))
theorem sG.keep {M M' : zM} {a p l h : Nat} {b : Nat → Nat} {f : Nat → Int} (hs : sG M a p b f) (hf : zfr M M' l h) (hd : a + 3 ≤ l ∨ h ≤ a) : sG M' a p b f := by
  obtain ⟨E, L, h1, h2, h3⟩ := hs
  exact ⟨E, L, h1.keep hf hd, h2, h3⟩
section SC4
variable {lo d a r N p : Nat} {b : Nat → Nat} {f : Nat → Int} {M : zM} {Q : Option zV → zM → Prop}
theorem sEn_b {E : Nat → Int} (h : ∀ k, k < p → E k = (b (k + 1) : Int)) (hp : p ≤ 6) {k : Nat} (hk : k < p) : sEn E (k : Int) = (b (k + 1) : Int) := by
  unfold sEn
  rw [if_pos (by omega), Int.toNat_natCast, h k hk]
theorem sSt_b {E : Nat → Int} (h : ∀ k, k < p → E k = (b (k + 1) : Int)) (hp : p ≤ 6) (h0 : b 0 = 0) {k : Nat} (hk : k ≤ p) : sSt E (k : Int) = (b k : Int) := by
  unfold sSt
  cases k with
  | zero => rw [if_neg (by omega), h0]; rfl
  | succ k => rw [if_pos (by omega), show ((k + 1 : Nat) : Int) - 1 = (k : Int) by omega, Int.toNat_natCast, h k (by omega)]
theorem g_endOf {k : Nat} (hs : sG M a p b f) (hw : wS p b f) (hk : k < p) (hQ : Q (some (Sum.inl ((b (k + 1) : Int)))) M) : zCt lo d kX4_endOf 0 0 [(Sum.inr (Sum.inl (some (a)))), (Sum.inl ((k : Int)))] M Q := by
  obtain ⟨E, L, h1, h2, h3⟩ := hs
  have hp := hw.2.1
  refine c_endOf h1 (zrr (by omega) (by omega)) ?_
  have e := sEn_b h2 hp hk
  unfold sEn at e
  rw [e]
  exact hQ
theorem g_startOf {k : Nat} (hs : sG M a p b f) (hw : wS p b f) (hk : k ≤ p) (hQ : Q (some (Sum.inl ((b k : Int)))) M) : zCt lo d kX4_startOf 0 0 [(Sum.inr (Sum.inl (some (a)))), (Sum.inl ((k : Int)))] M Q := by
  obtain ⟨E, L, h1, h2, h3⟩ := hs
  have hp := hw.2.1
  refine c_startOf h1 (zrr (by omega) (by omega)) ?_
  have e := sSt_b h2 hp hw.2.2.1 hk
  unfold sSt at e
  rw [e]
  exact hQ
theorem g_sizeOf {k : Nat} (hs : sG M a p b f) (hw : wS p b f) (hk : k < p) (hQ : Q (some (Sum.inl ((b (k + 1) : Int) - b k))) M) : zCt lo (d + 1) kX4_sizeOf 0 0 [(Sum.inr (Sum.inl (some (a)))), (Sum.inl ((k : Int)))] M Q := by
  obtain ⟨E, L, h1, h2, h3⟩ := hs
  have hp := hw.2.1
  refine c_sizeOf h1 (zrr (by omega) (by omega)) ?_
  rw [sSt_b h2 hp hw.2.2.1 (by omega), sEn_b h2 hp hk]
  exact hQ
theorem g_length (hs : sG M a p b f) (hw : wS p b f) (hQ : Q (some (Sum.inl ((b p : Int)))) M) : zCt lo (d + 1) kX4_length 0 0 [(Sum.inr (Sum.inl (some (a))))] M Q := by
  obtain ⟨E, L, h1, h2, h3⟩ := hs
  have hp := hw.2.1
  refine c_length h1 (zrr (by omega) (by omega)) ?_
  rw [sSt_b h2 hp hw.2.2.1 (Nat.le_refl p)]
  exact hQ
theorem g_hasPatch {x : Int} (hs : sG M a p b f) (hw : wS p b f) (hx : zRr x) (hQ : Q (some (Sum.inl (if 0 ≤ x ∧ x < (p : Int) then 1 else 0))) M) : zCt lo d kX4_hasPatch 0 0 [(Sum.inr (Sum.inl (some (a)))), (Sum.inl (x))] M Q := by
  obtain ⟨E, L, h1, h2, h3⟩ := hs
  have hp := hw.2.1
  exact c_hasPatch h1 hx (zrr (by omega) (by omega)) hQ
theorem g_hasSeam {x : Int} (hs : sG M a p b f) (hw : wS p b f) (hx : zRr x) (hQ : Q (some (Sum.inl (if 0 ≤ x ∧ x < (p : Int) - 1 then 1 else 0))) M) : zCt lo d kX4_hasSeam 0 0 [(Sum.inr (Sum.inl (some (a)))), (Sum.inl (x))] M Q := by
  obtain ⟨E, L, h1, h2, h3⟩ := hs
  have hp := hw.2.1
  exact c_hasSeam h1 hx (by omega) hQ
theorem g_letterAt {k : Nat} (hs : sG M a p b f) (hw : wS p b f) (hk : k < b p) (hQ : Q (some (Sum.inl (f k))) M) : zCt lo d kX4_letterAt 0 0 [(Sum.inr (Sum.inl (some (a)))), (Sum.inl ((k : Int)))] M Q := by
  obtain ⟨E, L, h1, h2, h3⟩ := hs
  have hp := hw.2.2.2.2.1
  refine c_letterAt h1 (zrr (by omega) (by omega)) ?_
  rw [if_pos (by omega), Int.toNat_natCast, h3 k hk]
  exact hQ
theorem g_canBeCut {k : Nat} {y : Int} (hs : sG M a p b f) (hw : wS p b f) (hk : k < p) (hy : zRr y) (hQ : Q (some (Sum.inl (if 1 ≤ y ∧ y < (b (k + 1) : Int) - b k then 1 else 0))) M) : zCt lo (d + 2) kX4_canBeCut 0 0 [(Sum.inr (Sum.inl (some (a)))), (Sum.inl ((k : Int))), (Sum.inl (y))] M Q := by
  obtain ⟨E, L, h1, h2, h3⟩ := hs
  have hp := hw.2.1
  have t := hw.top (show k + 1 ≤ p by omega)
  have t2 := hw.top (show k ≤ p by omega)
  have e1 := sSt_b h2 hp hw.2.2.1 (show k ≤ p by omega)
  have e2 := sEn_b h2 hp hk
  refine c_canBeCut h1 (zrr (by omega) (by omega)) hy (by rw [e1, e2]; exact zrr (by omega) (by omega)) ?_
  rw [e1, e2]
  exact hQ
/-- the boundaries behind a cut, behind a seam undone -/
def bCut (b : Nat → Nat) (k y : Nat) : Nat → Nat := fun j => if j ≤ k then b j else if j = k + 1 then b k + y else b (j - 1)
def bUnd (b : Nat → Nat) (k : Nat) : Nat → Nat := fun j => if j ≤ k then b j else b (j + 1)
theorem g_split {k y : Nat} (hs : sG M a p b f) (hw : wS p b f) (hk : k < p) (hp5 : p ≤ 5) (hy : y < 60) (hQ : ∀ M', sG M' a (p + 1) (bCut b k y) f → zfr M M' a (a + 3) → Q none M') : zCt lo (d + 1) kX4_split 0 0 [(Sum.inr (Sum.inl (some (a)))), (Sum.inl ((k : Int))), (Sum.inl ((y : Int)))] M Q := by
  obtain ⟨E, L, h1, h2, h3⟩ := hs
  have hp := hw.2.1
  refine c_split h1 (by omega) (zrr (by omega) (by omega)) (fun M' g1 g2 => hQ M' ⟨_, _, g1, fun j hj => ?_, fun j hj => ?_⟩ g2)
  · rw [sSt_b h2 hp hw.2.2.1 (show k ≤ p by omega)]
    simp only [sCut, bCut, Int.toNat_natCast]
    by_cases c1 : j < k
    · rw [if_pos c1, if_pos (by omega), h2 j (by omega)]
    · rw [if_neg c1]
      by_cases c2 : j = k
      · rw [if_pos c2, if_neg (by omega), if_pos (by omega)]; omega
      · rw [if_neg c2, if_pos (by omega), if_neg (by omega), if_neg (by omega), h2 (j - 1) (by omega)]
        congr 2
        omega
  · simp only [bCut] at hj
    rw [if_neg (by omega), if_neg (by omega)] at hj
    exact h3 j (by simpa using hj)
end SC4
