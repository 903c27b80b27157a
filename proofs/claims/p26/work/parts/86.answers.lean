-- what the calls answer of scrolls that are there
theorem an_sc {A : aS} {i : Nat} : scN A (i : Int) = A.1.2 i := rfl
theorem an_in {A : aS} {n i : Nat} (hn : A.1.1 = n) (hi : i < n) : inS A (i : Int) := ⟨by omega, by omega⟩
theorem an_patch {A : aS} {n i p : Nat} (hn : A.1.1 = n) (hi : i < n) (hp : p < (A.1.2 i).1) : oPatch A (i : Int) (p : Int) = (szP (A.1.2 i) p : Int) := by
  rw [oPatch, an_sc, if_pos ⟨an_in hn hi, by omega, by omega⟩, Int.toNat_natCast]
theorem an_patchN {A : aS} {i : Nat} : oPatch A (i : Int) ((A.1.2 i).1 : Int) = -1 := by
  rw [oPatch, an_sc, if_neg]
  rintro ⟨-, h, g⟩
  omega
theorem an_letter {A : aS} {n i p k : Nat} (hn : A.1.1 = n) (hi : i < n) (hp : p < (A.1.2 i).1) (hk : k < szP (A.1.2 i) p) : oLetter A (i : Int) (p : Int) (k : Int) = (A.1.2 i).2.2 ((A.1.2 i).2.1 p + k) := by
  rw [oLetter, an_sc, Int.toNat_natCast, Int.toNat_natCast, if_pos ⟨an_in hn hi, ⟨by omega, by omega⟩, by omega, by omega⟩]
theorem an_letterN {A : aS} {i p : Nat} : oLetter A (i : Int) (p : Int) (szP (A.1.2 i) p : Int) = -1 := by
  rw [oLetter, an_sc, Int.toNat_natCast, if_neg]
  rintro ⟨-, -, -, h⟩
  omega
theorem an_reading {A : aS} {n i r q : Nat} (hn : A.1.1 = n) (hi : i < n) (hr : r < (RD (A.1.2 i)).length) (hq : q < (A.1.2 i).2.1 (A.1.2 i).1) : oReading A (i : Int) (r : Int) (q : Int) = ((RD (A.1.2 i)).getD r []).getD q 0 := by
  rw [oReading, an_sc, Int.toNat_natCast, Int.toNat_natCast, if_pos ⟨an_in hn hi, by omega, by omega, by omega, by show _ < ((_ : Nat) : Int); rw [lnS]; omega⟩]
theorem an_readingR {A : aS} {i : Nat} {q : Int} : oReading A (i : Int) ((RD (A.1.2 i)).length : Int) q = -1 := by
  rw [oReading, an_sc, if_neg]
  rintro ⟨-, -, h, -⟩
  omega
theorem an_readingQ {A : aS} {i : Nat} {r : Int} : oReading A (i : Int) r ((A.1.2 i).2.1 (A.1.2 i).1 : Int) = -1 := by
  rw [oReading, an_sc, if_neg]
  rintro ⟨-, -, -, -, h⟩
  rw [lnS] at h
  omega
theorem an_scroll {A : aS} {n i : Nat} (hn : A.1.1 = n) (hi : i < n) : oScroll A (i : Int) 0 = ((A.1.2 i).1 : Int) ∧ oScroll A (i : Int) 1 = ((A.1.2 i).2.1 (A.1.2 i).1 : Int) ∧ oScroll A (i : Int) 2 = ((RD (A.1.2 i)).length : Int) ∧ oScroll A (i : Int) 3 = (wys (A.1.2 i).2.1 (A.1.2 i).2.2 (A.1.2 i).1 : Int) ∧ oScroll A (i : Int) 4 = (zcnt (evn (A.1.2 i).2.1 (A.1.2 i).2.2) (A.1.2 i).1 : Int) ∧ oScroll A (i : Int) 5 = (evR (A.1.2 i) : Int) ∧ oScroll A (i : Int) 6 = (idS (A.1.2 i) : Int) := by
  have h := an_in hn hi
  refine ⟨?_, ?_, ?_, ?_, ?_, ?_, ?_⟩ <;> rw [oScroll, if_pos h, an_sc]
  · rfl
  · rfl
  · rfl
  · rfl
  · rfl
  · rfl
  · rfl
theorem an_shared {A : aS} {n i j : Nat} (hn : A.1.1 = n) (hi : i < n) (hj : j < n) : oShared A (i : Int) (j : Int) = (bth (A.1.2 i) (A.1.2 j) : Int) := by
  rw [oShared, an_sc, an_sc, if_pos ⟨an_in hn hi, an_in hn hj⟩]
theorem an_compare {A : aS} {n i j : Nat} (hn : A.1.1 = n) (hi : i < n) (hj : j < n) : oCompare A (i : Int) (j : Int) = cmp (A.1.2 i) (A.1.2 j) := by
  rw [oCompare, an_sc, an_sc, if_pos ⟨an_in hn hi, an_in hn hj⟩]
theorem an_count {A : aS} {n : Nat} (hn : A.1.1 = n) : oCount A 0 = (n : Int) ∧ oCount A 1 = (zsm (fun i => (A.1.2 i).1) n : Int) ∧ oCount A 2 = (zsm (fun i => (A.1.2 i).2.1 (A.1.2 i).1) n : Int) ∧ oCount A 3 = (alR n A.1.2 : Int) ∧ oCount A 4 = (prS n A.1.2 : Int) := by
  subst hn
  refine ⟨?_, ?_, ?_, ?_, ?_⟩ <;> rw [oCount]
  · rfl
  · rfl
  · rfl
  · rfl
  · rfl
-- what the law counts is what they answer
theorem rEs_wys {t : Sc} (hw : wS t.1 t.2.1 t.2.2) : (rdl t false).length = wys t.2.1 t.2.2 t.1 := by
  have hl : (ptl t false).length = t.1 := by simp [ptl]
  show (rEs t false).length = _
  rw [rEs, rE_len, prt, dgs_lsr, wys_pow hw t.1 (Nat.le_refl _), List.take_of_length_le (by omega)]
theorem bth_sw {t t2 : Sc} (hw : wS t.1 t.2.1 t.2.2) (hw2 : wS t2.1 t2.2.1 t2.2.2) : bth t t2 = bth t2 t := by
  rw [bth, bth]
  congr 1
  exact srt_uniq (List.Pairwise.filter _ (RD_srt hw)) (List.Pairwise.filter _ (RD_srt hw2)) (fun x => by
    simp only [List.mem_filter, decide_eq_true_eq]
    exact ⟨fun h => ⟨h.2, h.1⟩, fun h => ⟨h.2, h.1⟩⟩)
theorem bth_0 {t t2 : Sc} (hw : wS t.1 t.2.1 t.2.2) (hw2 : wS t2.1 t2.2.1 t2.2.2) (h : ¬ t2.2.1 t2.1 = t.2.1 t.1) : bth t t2 = 0 := by
  rw [bth, List.length_eq_zero_iff, List.filter_eq_nil_iff]
  intro z hz
  simp only [decide_eq_true_eq]
  intro hz2
  exact h ((RD_ll hw2 hz2).symm.trans (RD_ll hw hz))
/-- how two scrolls stand to one another, as the law finds it -/
def hw_ (b m y : Nat) : Int := if b = 0 then 0 else if b = m ∧ b = y then 4 else if b = m then 2 else if b = y then 3 else 1
theorem hw_cmp {t t2 : Sc} : cmp t t2 = hw_ (bth t t2) (RD t).length (RD t2).length := by
  rw [cmp, hw_]
  by_cases h0 : bth t t2 = 0
  · rw [if_pos h0, if_pos h0]
  · rw [if_neg h0, if_neg h0]
    by_cases h1 : bth t t2 = (RD t).length
    · rw [if_pos h1]
      by_cases h2 : bth t t2 = (RD t2).length
      · rw [if_pos h2, if_pos ⟨h1, h2⟩]
      · rw [if_neg h2, if_neg (fun g => h2 g.2), if_pos h1]
    · by_cases h2 : bth t t2 = (RD t2).length
      · rw [if_neg h1, if_pos h2, if_neg (fun g => h1 g.1), if_neg h1]
      · rw [if_neg h1, if_neg h2, if_neg (fun g => h1 g.1), if_neg h1]
theorem hw_sw (b m y : Nat) : hw_ b y m = if hw_ b m y = 2 then 3 else if hw_ b m y = 3 then 2 else hw_ b m y := by
  unfold hw_
  by_cases h0 : b = 0
  · simp [h0]
  · by_cases h1 : b = m <;> by_cases h2 : b = y <;> simp [h0, h1, h2] <;> (try omega)
theorem hw_4 {t t2 : Sc} (hw : wS t.1 t.2.1 t.2.2) (hw2 : wS t2.1 t2.2.1 t2.2.2) : hw_ (bth t t2) (RD t).length (RD t2).length = 4 ↔ RD t = RD t2 := by
  have hp := RD_pos hw
  have h := srt_eq (RD_srt hw) (RD_srt hw2)
  rw [← h, hw_]
  constructor
  · intro g
    by_cases h0 : bth t t2 = 0
    · rw [if_pos h0] at g; cases g
    · rw [if_neg h0] at g
      by_cases h1 : bth t t2 = (RD t).length ∧ bth t t2 = (RD t2).length
      · exact ⟨by omega, h1.1.symm⟩
      · rw [if_neg h1] at g
        split at g
        · cases g
        · split at g <;> cases g
  · rintro ⟨g1, g2⟩
    have g3 : (RD t).length = bth t t2 := g2
    rw [if_neg (by omega), if_pos ⟨g3.symm, by omega⟩]
theorem hw_r (b m y : Nat) : 0 ≤ hw_ b m y ∧ hw_ b m y ≤ 4 := by
  unfold hw_
  split
  · exact ⟨by decide, by decide⟩
  · split
    · exact ⟨by decide, by decide⟩
    · split
      · exact ⟨by decide, by decide⟩
      · split <;> exact ⟨by decide, by decide⟩
theorem idS_law {t t2 : Sc} (hw : wS t.1 t.2.1 t.2.2) (hw2 : wS t2.1 t2.2.1 t2.2.2) : RD t = RD t2 ↔ (RD t2).length = (RD t).length ∧ bth t t2 = (RD t).length := by
  rw [← srt_eq (RD_srt hw) (RD_srt hw2)]
  constructor
  · rintro ⟨h1, h2⟩
    exact ⟨h1.symm, h2.symm⟩
  · rintro ⟨h1, h2⟩
    exact ⟨h1.symm, h2.symm⟩
/-- a row the same from both ends, looked at by places -/
theorem pal_iff {x : List Int} {L : Nat} (h : x.length = L) : x = x.reverse ↔ ∀ i, i < L → x.getD i 0 = x.getD (L - 1 - i) 0 := by
  subst h
  constructor
  · intro e i hi
    conv => lhs; rw [e]
    rw [List.getD_eq_getElem?_getD, List.getD_eq_getElem?_getD, List.getElem?_reverse hi]
  · intro g
    refine List.ext_getElem? (fun i => ?_)
    by_cases hi : i < x.length
    · rw [List.getElem?_reverse hi]
      have := g i hi
      rw [List.getD_eq_getElem?_getD, List.getD_eq_getElem?_getD, List.getElem?_eq_getElem hi, List.getElem?_eq_getElem (show x.length - 1 - i < x.length by omega), Option.getD_some, Option.getD_some] at this
      rw [List.getElem?_eq_getElem hi, List.getElem?_eq_getElem (show x.length - 1 - i < x.length by omega), this]
    · rw [List.getElem?_eq_none (by omega), List.getElem?_eq_none (by rw [List.length_reverse]; omega)]
theorem pal_num {t : Sc} {p : Nat} (hw : wL t) (hp : p < t.1) : ext 0 (pat t p).reverse = ext 0 (pat t p) ↔ evn t.2.1 t.2.2 p = true := by
  have hb := hw.1.2.2.2.1 p hp
  have h2 := hw.1.le (show p + 1 ≤ t.1 by omega) (Nat.le_refl _)
  have hz : zL (pat t p) := fun z hz => by
    obtain ⟨j, hj, rfl⟩ := List.mem_map.mp hz
    have hj' := List.mem_range.mp hj
    exact hw.1.bl (show p + 1 ≤ t.1 by omega) (by omega)
  rw [show ext 0 (pat t p).reverse = nm (pat t p).reverse from rfl, show ext 0 (pat t p) = nm (pat t p) from rfl, nm_eq (List.length_reverse ..) (fun z h => hz z (List.mem_reverse.mp h)) hz, evn, decide_eq_true_eq, otp_pal (by omega)]
  exact ⟨fun h => h.symm, fun h => h.symm⟩
theorem pat_j {t : Sc} {p : Nat} (hw : wL t) (hp : p < t.1) (w : Bool) : zJr (ext 0 (if w = true then (pat t p).reverse else pat t p)) := by
  have hb := hw.1.2.2.2.1 p hp
  have h2 := hw.1.le (show p + 1 ≤ t.1 by omega) (Nat.le_refl _)
  have h10 := hw.2
  have hz : zL (pat t p) := fun z hz => by
    obtain ⟨j, hj, rfl⟩ := List.mem_map.mp hz
    have hj' := List.mem_range.mp hj
    exact hw.1.bl (show p + 1 ≤ t.1 by omega) (by omega)
  have hl : (pat t p).length ≤ 10 := by rw [pat, slc_len]; omega
  cases w
  · rw [if_neg (by decide)]; exact nm_b hz hl
  · rw [if_pos rfl]; exact nm_b (fun z h => hz z (List.mem_reverse.mp h)) (by rw [List.length_reverse]; exact hl)
/-- the first k rows of a list that a test takes -/
def cT (P : List Int → Bool) (l : List (List Int)) : Nat → Nat
  | 0 => 0
  | k + 1 => cT P l k + (if P (l.getD k []) = true then 1 else 0)
theorem cT_fil {P : List Int → Bool} {l : List (List Int)} : ∀ k, k ≤ l.length → cT P l k = ((l.take k).filter P).length
  | 0, _ => by simp [cT]
  | k + 1, hk => by
    rw [cT, cT_fil k (by omega), List.take_add_one, List.filter_append, List.length_append, List.getElem?_eq_getElem (show k < l.length by omega), List.getD_eq_getElem?_getD, List.getElem?_eq_getElem (show k < l.length by omega), Option.getD_some]
    congr 1
    by_cases c : P l[k] = true
    · rw [if_pos c]
      simp [c]
    · rw [if_neg c]
      simp [c]
theorem cT_all {P : List Int → Bool} {l : List (List Int)} : cT P l l.length = (l.filter P).length := by rw [cT_fil _ (Nat.le_refl _), List.take_length]
theorem cT_le {P : List Int → Bool} {l : List (List Int)} : ∀ k, cT P l k ≤ k
  | 0 => Nat.le_refl _
  | k + 1 => by
    have := cT_le (P := P) (l := l) k
    rw [cT]
    split <;> omega
