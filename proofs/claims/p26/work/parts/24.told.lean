theorem lcm_skip {A B : Nat → Int} : ∀ (k n : Nat), k ≤ n → (∀ j, j < k → A j = B j) → lcm_ (tkl A n) (tkl B n) = lcm_ (tkl (fun j => A (k + j)) (n - k)) (tkl (fun j => B (k + j)) (n - k)) := by
  intro k
  induction k generalizing A B with
  | zero => intro n _ _; simp
  | succ k ih =>
    intro n hk h
    cases n with
    | zero => omega
    | succ n =>
      rw [tkl_cons, tkl_cons, lcm_, if_pos (h 0 (by omega)), ih n (by omega) (fun j hj => h (j + 1) (by omega))]
      rw [show n + 1 - (k + 1) = n - k by omega]
      have e : ∀ j, k + j + 1 = k + 1 + j := fun j => by omega
      simp only [e]
theorem lcm_first {A B : Nat → Int} {k n : Nat} (hk : k < n) (h : ∀ j, j < k → A j = B j) (hne : A k ≠ B k) : lcm_ (tkl A n) (tkl B n) = A k - B k := by
  rw [lcm_skip k n (by omega) h, show n - k = (n - k - 1) + 1 by omega, tkl_cons, tkl_cons, lcm_]
  simp only [Nat.add_zero]
  rw [if_neg hne]
/-- a part of a row -/
def slc (f : Nat → Int) (l n : Nat) : List Int := tkl (fun j => f (l + j)) n
theorem slc_rev {f : Nat → Int} {l n : Nat} : (slc f l n).reverse = tkl (fun j => f (l + (n - 1 - j))) n := tkl_rev n
theorem slc_len {f : Nat → Int} {l n : Nat} : (slc f l n).length = n := tkl_len
theorem ot_lcm {f : Nat → Int} {l h : Nat} (hlh : l ≤ h) : ∀ (n k : Nat), h ≤ l + 2 * k + n → (∀ j, j < k → j < h - l → f (l + j) = f (l + (h - l - 1 - j))) → ot f n (l + k) (h - k) = lcm_ (slc f l (h - l)) (slc f l (h - l)).reverse := by
  have stop : ∀ k, (h ≤ l + 2 * k + 1) → (∀ j, j < k → j < h - l → f (l + j) = f (l + (h - l - 1 - j))) → lcm_ (slc f l (h - l)) (slc f l (h - l)).reverse = 0 := by
    intro k hk hall
    rw [lcm_eq (by simp), slc_rev, slc, tkl_eq]
    intro j hj
    by_cases c : j < k
    · exact hall j c hj
    · by_cases c2 : h - l - 1 - j < k
      · have := hall (h - l - 1 - j) c2 (by omega)
        rw [this]
        congr 1
        omega
      · congr 1
        omega
  intro n
  induction n with
  | zero =>
    intro k hk hall
    rw [ot, stop k (by omega) hall]
  | succ n ih =>
    intro k hk hall
    rw [ot]
    by_cases c : l + k + 1 < h - k
    · rw [if_pos c]
      by_cases e : f (l + k) = f (h - k - 1)
      · rw [if_pos e]
        have := ih (k + 1) (by omega) (fun j hj hj2 => by
          by_cases c2 : j = k
          · subst c2
            rw [e]
            congr 1
            omega
          · exact hall j (by omega) hj2)
        rw [show h - k - 1 = h - (k + 1) by omega]
        exact this
      · rw [if_neg e, slc_rev, slc, lcm_first (k := k) (by omega) (fun j hj => hall j hj (by omega)) (by
          rw [show l + (h - l - 1 - k) = h - k - 1 by omega]
          exact e), show l + (h - l - 1 - k) = h - k - 1 by omega]
    · rw [if_neg c, stop k (by omega) hall]
theorem otp_lcm {f : Nat → Int} {l h : Nat} (hlh : l ≤ h) : otp f l h = lcm_ (slc f l (h - l)) (slc f l (h - l)).reverse := ot_lcm hlh (h - l) 0 (by omega) (fun j hj => by omega)
theorem otp_pal {f : Nat → Int} {l h : Nat} (hlh : l ≤ h) : otp f l h = 0 ↔ slc f l (h - l) = (slc f l (h - l)).reverse := by
  rw [otp_lcm hlh, lcm_eq (by simp)]
-- a scroll's patches as lists
def pat (t : Sc) (k : Nat) : List Int := slc t.2.2 (t.2.1 k) (t.2.1 (k + 1) - t.2.1 k)
def ptl (t : Sc) (fl : Bool) : List (List Int) := (List.range t.1).map (fun i => pat t (zpi_ fl t.1 i))
def lsr (q : List Int) : List Int := if 0 < lcm_ q q.reverse then q.reverse else q
def prt (t : Sc) (fl : Bool) : List (List Int) := (ptl t fl).map lsr
theorem lsr_rev {q : List Int} : lsr q = q ∨ lsr q = q.reverse := by
  unfold lsr
  split
  · exact Or.inr rfl
  · exact Or.inl rfl
theorem lsr_lsf {q : List Int} : lsf (lsr q) := by
  unfold lsr
  split
  next h =>
    refine Or.inr ?_
    rw [List.reverse_reverse]
    exact (lcm_gt (by simp)).mp h
  next h =>
    by_cases c : lcm_ q q.reverse = 0
    · exact Or.inl ((lcm_eq (by simp)).mp c)
    · exact Or.inr ((lcm_lt (by simp)).mp (by omega))
theorem lsr_len {q : List Int} : (lsr q).length = q.length := by
  rcases lsr_rev (q := q) with h | h <;> rw [h]
  simp
theorem lsr_pal {q : List Int} : lsr q = (lsr q).reverse ↔ q = q.reverse := by
  rcases lsr_rev (q := q) with h | h <;> rw [h]
  rw [List.reverse_reverse]
  exact ⟨fun e => e.symm, fun e => e.symm⟩
theorem chs_lsr : ∀ {ps : List (List Int)} {x : List Int}, chs (ps.map lsr) x ↔ chs ps x
  | [], x => Iff.rfl
  | q :: qs, x => by
    simp only [List.map_cons, chs]
    constructor
    · rintro ⟨y, h1, h2⟩
      refine ⟨y, chs_lsr.mp h1, ?_⟩
      rcases lsr_rev (q := q) with h | h
      · rw [h] at h2; exact h2
      · rw [h, List.reverse_reverse] at h2; exact h2.symm
    · rintro ⟨y, h1, h2⟩
      refine ⟨y, chs_lsr.mpr h1, ?_⟩
      rcases lsr_rev (q := q) with h | h
      · rw [h]; exact h2
      · rw [h, List.reverse_reverse]; exact h2.symm
theorem tln_lsr : ∀ (ps : List (List Int)), tln (ps.map lsr) = tln ps
  | [] => rfl
  | q :: qs => by simp [tln, tln_lsr qs, lsr_len]
theorem dgs_lsr : ∀ (ps : List (List Int)), dgs (ps.map lsr) = dgs ps
  | [] => rfl
  | q :: qs => by
    simp only [List.map_cons, dgs, lsr_pal, dgs_lsr qs]
/-- the rows of a scroll from one end -/
def rEs (t : Sc) (fl : Bool) : List (List Int) := rE (prt t fl)
/-- A SCROLL'S READINGS, in the order of the alphabet, each once -/
def RD (t : Sc) : List (List Int) := mrg 200 (rEs t false) (rEs t true)
theorem wS_t {t : Sc} (h : wS t.1 t.2.1 t.2.2) : t.1 ≤ 6 := h.2.1
theorem ptl_take {t : Sc} {fl : Bool} (hw : wS t.1 t.2.1 t.2.2) : ∀ i, i ≤ t.1 → tln ((ptl t fl).take i) = zpa fl t.1 t.2.1 i
  | 0, _ => by rw [zpa_0 hw.2.2.1]; simp [tln]
  | i + 1, hi => by
    have h1 := ptl_take (fl := fl) hw i (by omega)
    have hlen : (ptl t fl).length = t.1 := by simp [ptl]
    obtain ⟨h2, h3⟩ := zpa_s (fl := fl) hw (show i < t.1 by omega)
    have hg : (ptl t fl)[i]? = some (pat t (zpi_ fl t.1 i)) := by simp [ptl, show i < t.1 by omega]
    rw [List.take_succ, hg]
    simp only [Option.toList_some]
    rw [tln_snoc, h1, h2, pat, slc_len]
theorem ptl_tln {t : Sc} {fl : Bool} (hw : wS t.1 t.2.1 t.2.2) : tln (ptl t fl) = t.2.1 t.1 := by
  have h1 := ptl_take (fl := fl) hw t.1 (Nat.le_refl _)
  have hlen : (ptl t fl).length = t.1 := by simp [ptl]
  rw [List.take_of_length_le (by omega)] at h1
  rw [h1]
  unfold zpa
  split
  · rw [Nat.sub_self, hw.2.2.1]; omega
  · rfl
theorem dgs_le : ∀ (ps : List (List Int)), dgs ps ≤ ps.length
  | [] => Nat.le_refl 0
  | q :: qs => by
    have := dgs_le qs
    simp only [dgs, List.length_cons]
    split <;> omega
theorem prt_len {t : Sc} {fl : Bool} : (prt t fl).length = t.1 := by simp [prt, ptl]
theorem prt_dgs {t : Sc} {fl : Bool} (hw : wS t.1 t.2.1 t.2.2) : dgs (prt t fl) ≤ 6 := by
  have h1 := dgs_le (prt t fl)
  rw [prt_len] at h1
  have := hw.2.1
  omega
theorem rEs_n {t : Sc} {fl : Bool} (hw : wS t.1 t.2.1 t.2.2) : (rEs t fl).length ≤ 64 := by
  rw [rEs, rE_len]
  exact Nat.le_trans (Nat.pow_le_pow_right (n := 2) (by decide) (prt_dgs hw)) (by decide)
theorem rEs_ll {t : Sc} {fl : Bool} (hw : wS t.1 t.2.1 t.2.2) : ∀ x ∈ rEs t fl, x.length = t.2.1 t.1 := by
  intro x hx
  rw [rE_llen hx, prt, tln_lsr, ptl_tln hw]
theorem rEs_srt {t : Sc} {fl : Bool} : srt (rEs t fl) := rE_srt (fun q hq => by
  obtain ⟨r, -, rfl⟩ := List.mem_map.mp hq
  exact lsr_lsf)
theorem rEs_mem {t : Sc} {fl : Bool} {x : List Int} : x ∈ rEs t fl ↔ chs (ptl t fl) x := by
  rw [rEs, rE_mem, prt, chs_lsr]
theorem RD_mem {t : Sc} (hw : wS t.1 t.2.1 t.2.2) {x : List Int} : x ∈ RD t ↔ chs (ptl t false) x ∨ chs (ptl t true) x := by
  have h1 := rEs_n (fl := false) hw
  have h2 := rEs_n (fl := true) hw
  rw [RD, mrg_mem (N := t.2.1 t.1) (by omega) (rEs_ll hw) (rEs_ll hw), rEs_mem, rEs_mem]
theorem RD_srt {t : Sc} (hw : wS t.1 t.2.1 t.2.2) : srt (RD t) := by
  have h1 := rEs_n (fl := false) hw
  have h2 := rEs_n (fl := true) hw
  exact mrg_srt (N := t.2.1 t.1) (by omega) (rEs_ll hw) (rEs_ll hw) rEs_srt rEs_srt
theorem RD_n {t : Sc} (hw : wS t.1 t.2.1 t.2.2) : (RD t).length ≤ 128 := by
  have h1 := rEs_n (fl := false) hw
  have h2 := rEs_n (fl := true) hw
  have := mrg_len (n := 200) (a := rEs t false) (b := rEs t true) (by omega)
  rw [RD]
  omega
theorem RD_ll {t : Sc} (hw : wS t.1 t.2.1 t.2.2) {x : List Int} (hx : x ∈ RD t) : x.length = t.2.1 t.1 := by
  rcases (RD_mem hw).mp hx with h | h
  · exact rEs_ll hw x (rEs_mem.mpr h)
  · exact rEs_ll hw x (rEs_mem.mpr h)
/-- letters of what is told -/
theorem chs_zB : ∀ {ps : List (List Int)} {x : List Int}, chs ps x → (∀ q ∈ ps, ∀ z ∈ q, (0 : Int) ≤ z ∧ z ≤ 25) → ∀ z ∈ x, (0 : Int) ≤ z ∧ z ≤ 25
  | [], x, h, _, z, hz => by rw [h] at hz; cases hz
  | q :: qs, x, ⟨y, h1, h2⟩, hb, z, hz => by
    have ih := chs_zB h1 (fun r hr => hb r (List.mem_cons_of_mem _ hr))
    have hq := hb q List.mem_cons_self
    rcases h2 with rfl | rfl
    · rcases List.mem_append.mp hz with h | h
      · exact hq z h
      · exact ih z h
    · rcases List.mem_append.mp hz with h | h
      · exact hq z (List.mem_reverse.mp h)
      · exact ih z h
theorem ptl_zB {t : Sc} {fl : Bool} (hw : wS t.1 t.2.1 t.2.2) : ∀ q ∈ ptl t fl, ∀ z ∈ q, (0 : Int) ≤ z ∧ z ≤ 25 := by
  intro q hq z hz
  obtain ⟨i, hi, rfl⟩ := List.mem_map.mp hq
  have hi' := List.mem_range.mp hi
  have hpi := (zpa_s (fl := fl) hw hi').2
  obtain ⟨j, hj, rfl⟩ := List.mem_map.mp hz
  have hj' := List.mem_range.mp hj
  exact hw.bl (show zpi_ fl t.1 i + 1 ≤ t.1 by omega) (by omega)
theorem RD_zB {t : Sc} (hw : wS t.1 t.2.1 t.2.2) {x : List Int} (hx : x ∈ RD t) : ∀ z ∈ x, (0 : Int) ≤ z ∧ z ≤ 25 := by
  rcases (RD_mem hw).mp hx with h | h
  · exact chs_zB h (ptl_zB hw)
  · exact chs_zB h (ptl_zB hw)
theorem tkl_zB {R : Nat → Int} {n : Nat} (h : ∀ z ∈ tkl R n, (0 : Int) ≤ z ∧ z ≤ 25) : zB R 0 n := fun j _ hj => h (R j) (List.mem_map.mpr ⟨j, List.mem_range.mpr hj, rfl⟩)
-- what can be told, and what a program finds
theorem sta_iff {f R : Nat → Int} {w : Bool} {s e at_ known : Nat} (hk : at_ + (e - s) ≤ known) (hse : s ≤ e) : zsta f w s e R at_ known ↔ slc R at_ (e - s) = if w = true then (slc f s (e - s)).reverse else slc f s (e - s) := by
  cases w with
  | true =>
    rw [if_pos rfl, slc_rev, slc, tkl_eq]
    constructor
    · intro h j hj
      rw [h j hj (by omega), zix, if_pos rfl]
      congr 1
      omega
    · intro h j hj _
      rw [h j hj, zix, if_pos rfl]
      congr 1
      omega
  | false =>
    rw [if_neg (by decide), slc, slc, tkl_eq]
    constructor
    · intro h j hj
      rw [h j hj (by omega), zix, if_neg (by decide)]
    · intro h j hj _
      rw [h j hj, zix, if_neg (by decide)]
theorem bw_iff {t : Sc} {fl : Bool} {R : Nat → Int} (hw : wS t.1 t.2.1 t.2.2) : zbw t.1 t.2.1 t.2.2 fl R (t.2.1 t.1) ↔ chs (ptl t fl) (tkl R (t.2.1 t.1)) := by
  have key : ∀ (m i : Nat), i + m = t.1 → ((∀ j, i ≤ j → j < t.1 → zsta t.2.2 false (t.2.1 (zpi_ fl t.1 j)) (t.2.1 (zpi_ fl t.1 j + 1)) R (zpa fl t.1 t.2.1 j) (t.2.1 t.1) ∨ zsta t.2.2 true (t.2.1 (zpi_ fl t.1 j)) (t.2.1 (zpi_ fl t.1 j + 1)) R (zpa fl t.1 t.2.1 j) (t.2.1 t.1)) ↔ chs ((List.range' i m).map (fun j => pat t (zpi_ fl t.1 j))) (slc R (zpa fl t.1 t.2.1 i) (t.2.1 t.1 - zpa fl t.1 t.2.1 i))) := by
    intro m
    induction m with
    | zero =>
      intro i hi
      have e : zpa fl t.1 t.2.1 i = t.2.1 t.1 := by
        rw [show i = t.1 by omega]
        unfold zpa
        split
        · rw [Nat.sub_self, hw.2.2.1]; omega
        · rfl
      rw [e, Nat.sub_self]
      simp only [List.range'_zero, List.map_nil, chs]
      exact ⟨fun _ => rfl, fun _ j h1 h2 => by omega⟩
    | succ m ih =>
      intro i hi
      obtain ⟨h1, h2⟩ := zpa_s (fl := fl) hw (show i < t.1 by omega)
      have h3 := zpa_le (fl := fl) hw (show i + 1 ≤ t.1 by omega)
      have h4 := hw.2.2.2.1 _ h2
      rw [List.range'_succ, List.map_cons]
      simp only [chs]
      have hsp : slc R (zpa fl t.1 t.2.1 i) (t.2.1 t.1 - zpa fl t.1 t.2.1 i) = slc R (zpa fl t.1 t.2.1 i) (t.2.1 (zpi_ fl t.1 i + 1) - t.2.1 (zpi_ fl t.1 i)) ++ slc R (zpa fl t.1 t.2.1 (i + 1)) (t.2.1 t.1 - zpa fl t.1 t.2.1 (i + 1)) := by
        rw [show t.2.1 t.1 - zpa fl t.1 t.2.1 i = (t.2.1 (zpi_ fl t.1 i + 1) - t.2.1 (zpi_ fl t.1 i)) + (t.2.1 t.1 - zpa fl t.1 t.2.1 (i + 1)) by omega, slc, tkl_app]
        congr 1
        rw [slc, tkl_eq]
        intro j hj
        congr 1
        omega
      rw [hsp]
      constructor
      · intro hall
        refine ⟨_, (ih (i + 1) (by omega)).mp (fun j g1 g2 => hall j (by omega) g2), ?_⟩
        rcases hall i (Nat.le_refl i) (by omega) with g | g
        · have := (sta_iff (by omega) (by omega)).mp g
          rw [if_neg (by decide)] at this
          exact Or.inl (by rw [this]; rfl)
        · have := (sta_iff (by omega) (by omega)).mp g
          rw [if_pos rfl] at this
          exact Or.inr (by rw [this]; rfl)
      · rintro ⟨y, g1, g2⟩
        have hl : slc R (zpa fl t.1 t.2.1 i) (t.2.1 (zpi_ fl t.1 i + 1) - t.2.1 (zpi_ fl t.1 i)) = pat t (zpi_ fl t.1 i) ∧ slc R (zpa fl t.1 t.2.1 (i + 1)) (t.2.1 t.1 - zpa fl t.1 t.2.1 (i + 1)) = y ∨ slc R (zpa fl t.1 t.2.1 i) (t.2.1 (zpi_ fl t.1 i + 1) - t.2.1 (zpi_ fl t.1 i)) = (pat t (zpi_ fl t.1 i)).reverse ∧ slc R (zpa fl t.1 t.2.1 (i + 1)) (t.2.1 t.1 - zpa fl t.1 t.2.1 (i + 1)) = y := by
          rcases g2 with g2 | g2
          · exact Or.inl (List.append_inj g2 (by rw [slc_len, pat, slc_len]))
          · exact Or.inr (List.append_inj g2 (by rw [slc_len, List.length_reverse, pat, slc_len]))
        intro j j1 j2
        by_cases c : j = i
        · subst c
          rcases hl with ⟨g3, -⟩ | ⟨g3, -⟩
          · exact Or.inl ((sta_iff (by omega) (by omega)).mpr (by rw [if_neg (by decide)]; exact g3))
          · exact Or.inr ((sta_iff (by omega) (by omega)).mpr (by rw [if_pos rfl]; exact g3))
        · have g4 : slc R (zpa fl t.1 t.2.1 (i + 1)) (t.2.1 t.1 - zpa fl t.1 t.2.1 (i + 1)) = y := by
            rcases hl with ⟨-, g3⟩ | ⟨-, g3⟩ <;> exact g3
          exact (ih (i + 1) (by omega)).mpr (by rw [g4]; exact g1) j (by omega) j2
  have k0 := key t.1 0 (by omega)
  rw [zpa_0 hw.2.2.1, Nat.sub_zero] at k0
  have e1 : (List.range' 0 t.1).map (fun j => pat t (zpi_ fl t.1 j)) = ptl t fl := by rw [ptl, List.range_eq_range']
  have e2 : slc R 0 (t.2.1 t.1) = tkl R (t.2.1 t.1) := by simp [slc]
  rw [e1, e2] at k0
  rw [← k0]
  constructor
  · intro h j _ hj
    obtain ⟨h1, h2⟩ := zpa_s (fl := fl) hw hj
    have h3 := zpa_le (fl := fl) hw (show j + 1 ≤ t.1 by omega)
    have h4 := hw.2.2.2.1 _ h2
    exact h j hj (by omega)
  · intro h j hj _
    exact h j (Nat.zero_le j) hj
theorem tel_iff {t : Sc} {R : Nat → Int} {len : Nat} (hw : wS t.1 t.2.1 t.2.2) : tel t R len ↔ tkl R len ∈ RD t := by
  constructor
  · rintro ⟨h1, h2⟩
    subst h1
    rw [RD_mem hw]
    exact h2.imp (bw_iff hw).mp (bw_iff hw).mp
  · intro h
    have hl := RD_ll hw h
    rw [tkl_len] at hl
    subst hl
    rw [RD_mem hw] at h
    exact ⟨rfl, h.imp (bw_iff hw).mpr (bw_iff hw).mpr⟩
