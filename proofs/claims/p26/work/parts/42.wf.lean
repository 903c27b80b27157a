theorem wf_stS {A : aS} {H : Sh} (h : wfA A) (hH : wfH H) : wfA (stS A H) := ⟨hH, h.2⟩
theorem wf_stP {A : aS} {n : Nat} {c : Nat → Int} (h : wfA A) (hn : n ≤ 64) (hp : wP n c) : wfA (stP A n c) := ⟨h.1, ⟨hn, hp⟩, h.2.2⟩
theorem wf_ptS {H : Sh} {k : Nat} {t : Sc} (h : wfH H) (ht : wB t) : wfH (ptS H k t) := ⟨h.1, fun i hi => by
  simp only [ptS] at hi ⊢
  by_cases e : i = k
  · rw [e, zu_same]; exact ht
  · rw [zu_ne e]; exact h.2 i hi⟩
theorem wf_rmS {H : Sh} {k : Nat} (h : wfH H) : wfH (rmS H k) := ⟨by have := h.1; simp only [rmS]; omega, fun i hi => by
  simp only [rmS] at hi ⊢
  split
  · exact h.2 i (by omega)
  · exact h.2 (i + 1) (by omega)⟩
theorem wf_burn {A : aS} {x : Int} (h : wfA A) : wfA (oBurn A x).1 := by
  rw [oBurn]
  split
  · exact wf_stS (wfA_rcd h) (wf_rmS h.1)
  · exact h
theorem wf_cut {A : aS} {x p y : Int} (h : wfA A) : wfA (oCut A x p y).1 := by
  rw [oCut]
  split
  · rename_i c1
    split
    · rename_i c2
      split
      · exact h
      · rename_i c3
        exact wf_stS (wfA_rcd h) (wf_ptS h.1 (wB_cut (h.sc c1.1) (by omega) (by omega) (by omega) (by omega)))
    · exact h
  · exact h
theorem wf_undoSeam {A : aS} {x p : Int} (h : wfA A) : wfA (oUndoSeam A x p).1 := by
  rw [oUndoSeam]
  split
  · rename_i c1
    split
    · exact h
    · rename_i c2
      exact wf_stS (wfA_rcd h) (wf_ptS h.1 (wB_und (h.sc c1.1) (by omega) (by omega)))
  · exact h
theorem wf_turn {A : aS} {x p : Int} (h : wfA A) : wfA (oTurn A x p).1 := by
  rw [oTurn]
  split
  · rename_i c1
    exact wf_stS (wfA_rcd h) (wf_ptS h.1 (wB_turn (h.sc c1.1) (by omega)))
  · exact h
theorem wf_exchange {A : aS} {x p : Int} (h : wfA A) : wfA (oExchange A x p).1 := by
  rw [oExchange]
  split
  · rename_i c1
    exact wf_stS (wfA_rcd h) (wf_ptS h.1 (wB_swp (h.sc c1.1) (by omega)))
  · exact h
theorem wf_join {A : aS} {x y : Int} (h : wfA A) : wfA (oJoin A x y).1 := by
  rw [oJoin]
  split
  · rename_i c1
    split
    · exact h
    · split
      · exact h
      · rename_i c2
        exact wf_stS (wfA_rcd h) (wf_rmS (wf_ptS h.1 (wB_join (h.sc c1.2) (h.sc c1.1) (by omega))))
  · exact h
theorem wf_sew {A : aS} (h : wfA A) : wfA (oSew A).1 := by
  rw [oSew]
  split
  · rename_i c1
    split
    · exact h
    · rename_i c2
      refine wf_stP (wf_stS (wfA_rcd h) ⟨?_, fun j hj => ?_⟩) (Nat.zero_le _) (fun j hj => by omega)
      · have e := sewF_n A.2.1.1 0 A.1.1 A.1.2 sc0 (c := A.2.1.2)
        have e0 : zcnt (fun j => decide (A.2.1.2 j = 59)) 0 = 0 := rfl
        rw [Nat.zero_add] at e
        omega
      · exact sewF_wf A.2.1.1 0 A.1.1 A.1.2 sc0 (0, 1, 1) c1 ffI_0 h.1.2 j hj
  · exact h
theorem cdN_chR {n : Nat} : ∀ (m i many : Nat), i + m = 8 → many ≤ i → (∀ j, j < many → 33 ≤ cdN n j ∧ cdN n j ≤ 126) → ∀ j, j < chR n m i many → 33 ≤ cdN n j ∧ cdN n j ≤ 126
  | 0, i, many, _, _, h, j, hj => h j hj
  | m + 1, i, many, hi, hm, h, j, hj => by
    rw [chR] at hj
    split at hj
    · exact cdN_chR m (i + 1) many (by omega) (by omega) h j hj
    · split at hj
      · omega
      · rename_i c
        refine cdN_chR m (i + 1) (many + 1) (by omega) (by omega) (fun k hk => ?_) j hj
        by_cases e : k = many
        · rw [e, show many = i by omega]; omega
        · exact h k (by omega)
theorem wf_put {A : aS} {u : Nat} (h : wfA A) : wfA (oPut A u).1 := by
  rw [oPut]
  split
  · exact h
  · split
    · exact h
    · rename_i c1 c2
      refine wf_stP h (by omega) (fun j hj => ?_)
      rw [ptC]
      split
      · exact h.2.1.2 j (by assumption)
      · have := cdN_chR (n := u) 8 0 0 rfl (Nat.le_refl _) (fun k hk => by omega) (chN u - 1 - (j - A.2.1.1)) (by rw [show chR u 8 0 0 = chN u from rfl]; omega)
        omega
theorem wf_wipe {A : aS} (h : wfA A) : wfA (oWipe A).1 := wf_stP h (Nat.zero_le _) (fun j hj => by omega)
theorem wf_undo {A : aS} (h : wfA A) : wfA (oUndo A).1 := by
  rw [oUndo]
  split
  · exact h
  · rename_i c
    obtain ⟨h1, h2, ⟨h3, h4⟩, h5⟩ := h
    exact ⟨h4 _ (by omega), h2, ⟨by dsimp only; omega, fun i hi => h4 i (by dsimp only at hi; omega)⟩, h5⟩
theorem wf_save {A : aS} {k : Int} (h : wfA A) : wfA (oSave A k).1 := by
  rw [oSave]
  split
  · obtain ⟨h1, h2, h3, h5⟩ := h
    refine ⟨h1, h2, h3, fun j hj => ?_⟩
    dsimp only
    by_cases e : j = k.toNat
    · rw [← e, zu_same, zu_same]; exact Or.inr ⟨rfl, h1⟩
    · rw [zu_ne e, zu_ne e]; exact h5 j hj
  · exact h
theorem wf_restore {A : aS} {k : Int} (h : wfA A) : wfA (oRestore A k).1 := by
  rw [oRestore]
  split
  · rename_i c
    split
    · exact h
    · rename_i c2
      refine wf_stS (wfA_rcd h) ?_
      rcases h.2.2.2 k.toNat (by omega) with q | q
      · exact absurd q c2
      · exact q.2
  · exact h
