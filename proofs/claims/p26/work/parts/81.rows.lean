-- rows in order, laid down as numbers
theorem srt_sub {l l' : List (List Int)} (h : srt l) (h' : srt l') (hs : ∀ x ∈ l', x ∈ l) : l'.length ≤ l.length := by
  have e : l.filter (fun z => decide (z ∈ l')) = l' := srt_uniq (List.Pairwise.filter _ h) h' (fun x => by
    simp only [List.mem_filter, decide_eq_true_eq]
    exact ⟨fun g => g.2, fun g => ⟨hs x g, g⟩⟩)
  rw [← e]
  exact List.length_filter_le _ _
theorem gd_mem {l : List (List Int)} {j : Nat} (h : j < l.length) : l.getD j [] ∈ l := by
  rw [List.getD_eq_getElem?_getD, List.getElem?_eq_getElem h, Option.getD_some]
  exact List.getElem_mem h
theorem gd_of {l : List (List Int)} {x : List Int} (h : x ∈ l) : ∃ j, j < l.length ∧ l.getD j [] = x := by
  obtain ⟨j, hj, e⟩ := List.mem_iff_getElem.mp h
  exact ⟨j, hj, by rw [List.getD_eq_getElem?_getD, List.getElem?_eq_getElem hj, Option.getD_some, e]⟩
theorem srt_gd {l : List (List Int)} (h : srt l) {i j : Nat} (hij : i < j) (hj : j < l.length) : llt (l.getD i []) (l.getD j []) := by
  have h2 := List.pairwise_iff_getElem.mp h i j (by omega) hj hij
  rw [List.getD_eq_getElem?_getD, List.getD_eq_getElem?_getD, List.getElem?_eq_getElem hj, List.getElem?_eq_getElem (show i < l.length by omega)]
  exact h2
/-- a row put in its place -/
def ins (z : List Int) (k : Nat) (l : List (List Int)) : List (List Int) := l.take k ++ z :: l.drop k
theorem ins_len {z : List Int} {k : Nat} {l : List (List Int)} (hk : k ≤ l.length) : (ins z k l).length = l.length + 1 := by
  simp [ins]
  omega
theorem ins_mem {z x : List Int} {k : Nat} {l : List (List Int)} : x ∈ ins z k l ↔ x ∈ l ∨ x = z := by
  have e : x ∈ l ↔ x ∈ l.take k ∨ x ∈ l.drop k := by
    conv => lhs; rw [← List.take_append_drop k l]
    exact List.mem_append
  rw [ins, List.mem_append, List.mem_cons, e]
  constructor
  · rintro (h | h | h)
    · exact Or.inl (Or.inl h)
    · exact Or.inr h
    · exact Or.inl (Or.inr h)
  · rintro ((h | h) | h)
    · exact Or.inl h
    · exact Or.inr (Or.inr h)
    · exact Or.inr (Or.inl h)
theorem ins_gd {z : List Int} {k : Nat} {l : List (List Int)} (hk : k ≤ l.length) {j : Nat} (hj : j < l.length + 1) : (ins z k l).getD j [] = if j < k then l.getD j [] else if j = k then z else l.getD (j - 1) [] := by
  simp only [ins, List.getD_eq_getElem?_getD]
  have hl : (l.take k).length = k := by rw [List.length_take]; omega
  by_cases h1 : j < k
  · rw [if_pos h1, List.getElem?_append_left (by omega), List.getElem?_take_of_lt h1]
  · rw [if_neg h1, List.getElem?_append_right (by omega), hl]
    by_cases h2 : j = k
    · rw [if_pos h2, h2, Nat.sub_self, List.getElem?_cons_zero, Option.getD_some]
    · rw [if_neg h2, show j - k = (j - 1 - k) + 1 by omega, List.getElem?_cons_succ, List.getElem?_drop, show k + (j - 1 - k) = j - 1 by omega]
theorem ins_srt {z : List Int} {k : Nat} {l : List (List Int)} (h : srt l) (hk : k ≤ l.length) (h1 : ∀ j, j < k → llt (l.getD j []) z) (h2 : k < l.length → llt z (l.getD k [])) : srt (ins z k l) := by
  refine List.pairwise_iff_getElem.mpr (fun i j hi hj hij => ?_)
  rw [ins_len hk] at hi hj
  have ei := ins_gd (z := z) hk hi
  have ej := ins_gd (z := z) hk hj
  rw [List.getD_eq_getElem?_getD, List.getElem?_eq_getElem (by rw [ins_len hk]; exact hi), Option.getD_some] at ei
  rw [List.getD_eq_getElem?_getD, List.getElem?_eq_getElem (by rw [ins_len hk]; exact hj), Option.getD_some] at ej
  rw [ei, ej]
  by_cases c1 : j < k
  · rw [if_pos (by omega), if_pos c1]
    exact srt_gd h hij (by omega)
  · rw [if_neg c1]
    by_cases c2 : j = k
    · rw [if_pos c2, if_pos (by omega)]
      exact h1 i (by omega)
    · rw [if_neg c2]
      by_cases c3 : i < k
      · rw [if_pos c3]
        exact srt_gd h (by omega) (by omega)
      · rw [if_neg c3]
        by_cases c4 : i = k
        · rw [if_pos c4]
          by_cases c5 : j - 1 = k
          · rw [c5]; exact h2 (by omega)
          · exact llt_tr (h2 (by omega)) (srt_gd h (by omega) (by omega))
        · rw [if_neg c4]
          exact srt_gd h (by omega) (by omega)
/-- a row of numbers holds rows -/
def hld (O : Nat → Int) (l : List (List Int)) : Prop := ∀ k, k < l.length → O k = nm (l.getD k [])
-- all rows that a scroll tells from one end, by the ways of its patches
def pcs (t : Sc) (fl : Bool) (m i : Nat) : List Int := if m.testBit (zpi_ fl t.1 i) = true then (pat t (zpi_ fl t.1 i)).reverse else pat t (zpi_ fl t.1 i)
def rwT (t : Sc) (fl : Bool) (m : Nat) : Nat → List Int
  | 0 => []
  | i + 1 => rwT t fl m i ++ pcs t fl m i
theorem chs_snoc : ∀ {ps : List (List Int)} {q x : List Int}, chs (ps ++ [q]) x ↔ ∃ y, chs ps y ∧ (x = y ++ q ∨ x = y ++ q.reverse)
  | [], q, x => by
    simp only [List.nil_append, chs]
    constructor
    · rintro ⟨y, rfl, h⟩
      exact ⟨[], rfl, by simpa using h⟩
    · rintro ⟨y, rfl, h⟩
      exact ⟨[], rfl, by simpa using h⟩
  | p :: ps, q, x => by
    simp only [List.cons_append, chs]
    constructor
    · rintro ⟨y, h1, h2⟩
      obtain ⟨w, h3, h4⟩ := chs_snoc.mp h1
      rcases h2 with rfl | rfl <;> rcases h4 with rfl | rfl
      · exact ⟨p ++ w, ⟨w, h3, Or.inl rfl⟩, Or.inl (by simp)⟩
      · exact ⟨p ++ w, ⟨w, h3, Or.inl rfl⟩, Or.inr (by simp)⟩
      · exact ⟨p.reverse ++ w, ⟨w, h3, Or.inr rfl⟩, Or.inl (by simp)⟩
      · exact ⟨p.reverse ++ w, ⟨w, h3, Or.inr rfl⟩, Or.inr (by simp)⟩
    · rintro ⟨y, ⟨w, h3, h4⟩, h2⟩
      rcases h2 with rfl | rfl <;> rcases h4 with rfl | rfl
      · exact ⟨w ++ q, chs_snoc.mpr ⟨w, h3, Or.inl rfl⟩, Or.inl (by simp)⟩
      · exact ⟨w ++ q, chs_snoc.mpr ⟨w, h3, Or.inl rfl⟩, Or.inr (by simp)⟩
      · exact ⟨w ++ q.reverse, chs_snoc.mpr ⟨w, h3, Or.inr rfl⟩, Or.inl (by simp)⟩
      · exact ⟨w ++ q.reverse, chs_snoc.mpr ⟨w, h3, Or.inr rfl⟩, Or.inr (by simp)⟩
theorem bits_ex : ∀ (n : Nat) (G : Nat → Bool), ∃ m, m < 2 ^ n ∧ ∀ p, p < n → m.testBit p = G p
  | 0, G => ⟨0, by decide, fun p hp => by omega⟩
  | n + 1, G => by
    obtain ⟨m, h1, h2⟩ := bits_ex n G
    have e : 2 ^ (n + 1) = 2 ^ n * 2 := Nat.pow_succ 2 n
    cases hG : G n with
    | false =>
      refine ⟨m, by omega, fun p hp => ?_⟩
      by_cases c : p = n
      · rw [c, hG]; exact Nat.testBit_lt_two_pow h1
      · exact h2 p (by omega)
    | true =>
      refine ⟨2 ^ n + m, by omega, fun p hp => ?_⟩
      by_cases c : p = n
      · rw [c, hG, Nat.testBit_two_pow_add_eq, Nat.testBit_lt_two_pow h1]; rfl
      · rw [Nat.testBit_two_pow_add_gt (by omega)]; exact h2 p (by omega)
theorem chs_cat {t : Sc} {fl : Bool} {x : List Int} : ∀ {n : Nat}, n ≤ t.1 → (chs ((List.range n).map (fun i => pat t (zpi_ fl t.1 i))) x ↔ ∃ F : Nat → Bool, x = (List.range n).foldl (fun y i => y ++ (if F i = true then (pat t (zpi_ fl t.1 i)).reverse else pat t (zpi_ fl t.1 i))) []) := by
  intro n
  induction n generalizing x with
  | zero =>
    intro _
    simp [chs]
  | succ n ih =>
    intro hn
    rw [List.range_succ, List.map_append, List.map_cons, List.map_nil, chs_snoc]
    constructor
    · rintro ⟨y, h1, h2⟩
      obtain ⟨F, h3⟩ := (ih (by omega)).mp h1
      have cg : ∀ (b : Bool), (List.range n).foldl (fun y i => y ++ (if (fun j => if j = n then b else F j) i = true then (pat t (zpi_ fl t.1 i)).reverse else pat t (zpi_ fl t.1 i))) [] = y := by
        intro b
        rw [h3]
        have g : ∀ (l : List Nat) (a : List Int), (∀ i ∈ l, i < n) → l.foldl (fun y i => y ++ (if (fun j => if j = n then b else F j) i = true then (pat t (zpi_ fl t.1 i)).reverse else pat t (zpi_ fl t.1 i))) a = l.foldl (fun y i => y ++ (if F i = true then (pat t (zpi_ fl t.1 i)).reverse else pat t (zpi_ fl t.1 i))) a := by
          intro l
          induction l with
          | nil => intro a _; rfl
          | cons i l il =>
            intro a hl
            have hi := hl i List.mem_cons_self
            rw [List.foldl_cons, List.foldl_cons, il _ (fun j hj => hl j (List.mem_cons_of_mem _ hj))]
            congr 1
            have e : (fun j => if j = n then b else F j) i = F i := if_neg (by omega)
            rw [e]
        exact g _ _ (fun i hi => List.mem_range.mp hi)
      rcases h2 with rfl | rfl
      · refine ⟨fun j => if j = n then false else F j, ?_⟩
        rw [List.foldl_append, cg false, List.foldl_cons, List.foldl_nil]
        simp
      · refine ⟨fun j => if j = n then true else F j, ?_⟩
        rw [List.foldl_append, cg true, List.foldl_cons, List.foldl_nil]
        simp
    · rintro ⟨F, h⟩
      rw [List.foldl_append, List.foldl_cons, List.foldl_nil] at h
      refine ⟨_, (ih (by omega)).mpr ⟨F, rfl⟩, ?_⟩
      by_cases c : F n = true
      · rw [if_pos c] at h; exact Or.inr h
      · rw [if_neg c] at h; exact Or.inl h
theorem rwT_cat {t : Sc} {fl : Bool} {m : Nat} : ∀ n, rwT t fl m n = (List.range n).foldl (fun y i => y ++ (if m.testBit (zpi_ fl t.1 i) = true then (pat t (zpi_ fl t.1 i)).reverse else pat t (zpi_ fl t.1 i))) []
  | 0 => rfl
  | n + 1 => by
    rw [List.range_succ, List.foldl_append, List.foldl_cons, List.foldl_nil, rwT, rwT_cat n]
    rfl
theorem zpi_inv {fl : Bool} {n i : Nat} (h : i < n) : zpi_ fl n (zpi_ fl n i) = i ∧ zpi_ fl n i < n := by
  cases fl
  · exact ⟨rfl, h⟩
  · simp only [zpi_, if_pos]
    omega
theorem chs_rw {t : Sc} {fl : Bool} {x : List Int} : chs (ptl t fl) x ↔ ∃ m, m < 2 ^ t.1 ∧ x = rwT t fl m t.1 := by
  rw [ptl, chs_cat (Nat.le_refl _)]
  constructor
  · rintro ⟨F, h⟩
    obtain ⟨m, h1, h2⟩ := bits_ex t.1 (fun p => F (zpi_ fl t.1 p))
    refine ⟨m, h1, ?_⟩
    rw [h, rwT_cat]
    have g : ∀ (l : List Nat) (a : List Int), (∀ i ∈ l, i < t.1) → l.foldl (fun y i => y ++ (if F i = true then (pat t (zpi_ fl t.1 i)).reverse else pat t (zpi_ fl t.1 i))) a = l.foldl (fun y i => y ++ (if m.testBit (zpi_ fl t.1 i) = true then (pat t (zpi_ fl t.1 i)).reverse else pat t (zpi_ fl t.1 i))) a := by
      intro l
      induction l with
      | nil => intro a _; rfl
      | cons i l il =>
        intro a hl
        have hi := hl i List.mem_cons_self
        rw [List.foldl_cons, List.foldl_cons, il _ (fun j hj => hl j (List.mem_cons_of_mem _ hj)), h2 _ (zpi_inv hi).2, (zpi_inv hi).1]
    exact g _ _ (fun i hi => List.mem_range.mp hi)
  · rintro ⟨m, -, h⟩
    exact ⟨fun i => m.testBit (zpi_ fl t.1 i), by rw [h, rwT_cat]⟩
-- how many readings at most
theorem dgs_two : ∀ {ps : List (List Int)}, (∀ q ∈ ps, 0 < q.length) → dgs ps + ps.length ≤ tln ps
  | [], _ => by simp [dgs, tln]
  | q :: qs, h => by
    have ih := dgs_two (ps := qs) (fun z hz => h z (List.mem_cons_of_mem _ hz))
    have hq := h q List.mem_cons_self
    simp only [dgs, tln, List.length_cons]
    split
    · omega
    next c =>
      have : 2 ≤ q.length := by
        match q, hq, c with
        | [z], _, c => exact absurd rfl c
        | _ :: _ :: _, _, _ => simp
      omega
def wL (t : Sc) : Prop := wS t.1 t.2.1 t.2.2 ∧ t.2.1 t.1 ≤ 10
theorem ptl_pos {t : Sc} {fl : Bool} (hw : wS t.1 t.2.1 t.2.2) : ∀ q ∈ ptl t fl, 0 < q.length := by
  intro q hq
  obtain ⟨i, hi, rfl⟩ := List.mem_map.mp hq
  have hi' := List.mem_range.mp hi
  have h1 := hw.2.2.2.1 _ (zpi_inv (fl := fl) hi').2
  rw [pat, slc_len]
  omega
theorem rEs_32 {t : Sc} {fl : Bool} (h : wL t) : (rEs t fl).length ≤ 32 := by
  have h1 := dgs_two (ptl_pos (fl := fl) h.1)
  have h2 : (ptl t fl).length = t.1 := by simp [ptl]
  have h3 := ptl_tln (fl := fl) h.1
  have h4 := h.2
  have h5 := dgs_le (ptl t fl)
  rw [rEs, rE_len, prt, dgs_lsr]
  exact Nat.le_trans (Nat.pow_le_pow_right (n := 2) (by decide) (show dgs (ptl t fl) ≤ 5 by omega)) (by decide)
theorem RD_64 {t : Sc} (h : wL t) : (RD t).length ≤ 64 := by
  have h1 := rEs_32 (fl := false) h
  have h2 := rEs_32 (fl := true) h
  have := mrg_len (n := 200) (a := rEs t false) (b := rEs t true) (by omega)
  rw [RD]
  omega
theorem RD_z {t : Sc} (hw : wS t.1 t.2.1 t.2.2) {x : List Int} (hx : x ∈ RD t) : zL x := RD_zB hw hx
theorem rEs_RD {t : Sc} (hw : wS t.1 t.2.1 t.2.2) {x : List Int} {fl : Bool} (hx : x ∈ rEs t fl) : x ∈ RD t := by
  cases fl
  · exact (RD_mem hw).mpr (Or.inl (rEs_mem.mp hx))
  · exact (RD_mem hw).mpr (Or.inr (rEs_mem.mp hx))
/-- what 'readings' lays down -/
def rdl (t : Sc) (all : Bool) : List (List Int) := if all = true then RD t else rEs t false
theorem rdl_srt {t : Sc} {all : Bool} (hw : wS t.1 t.2.1 t.2.2) : srt (rdl t all) := by
  cases all
  · exact rEs_srt
  · exact RD_srt hw
theorem rdl_RD {t : Sc} {all : Bool} (hw : wS t.1 t.2.1 t.2.2) {x : List Int} (hx : x ∈ rdl t all) : x ∈ RD t := by
  cases all
  · exact rEs_RD hw hx
  · exact hx
theorem RD_pos {t : Sc} (hw : wS t.1 t.2.1 t.2.2) : 0 < (RD t).length := by
  have h : rwT t false 0 t.1 ∈ RD t := (RD_mem hw).mpr (Or.inl (chs_rw.mpr ⟨0, Nat.two_pow_pos _, rfl⟩))
  exact List.length_pos_of_mem h
theorem hld_j {O : Nat → Int} {l : List (List Int)} {t : Sc} (h : hld O l) (hw : wL t) (hl : ∀ x ∈ l, x ∈ RD t) {k : Nat} (hk : k < l.length) : zJr (O k) := by
  rw [h k hk]
  have hx := hl _ (gd_mem hk)
  exact nm_b (RD_z hw.1 hx) (by rw [RD_ll hw.1 hx]; exact hw.2)
