-- rows of letters as lists
def tkl (R : Nat → Int) (n : Nat) : List Int := (List.range n).map R
theorem tkl_len {R : Nat → Int} {n : Nat} : (tkl R n).length = n := by simp [tkl]
theorem tkl_get {R : Nat → Int} {n j : Nat} (h : j < n) : (tkl R n)[j]? = some (R j) := by simp [tkl, h]
theorem tkl_eq {R R' : Nat → Int} {n : Nat} : tkl R n = tkl R' n ↔ ∀ j, j < n → R j = R' j := by
  constructor
  · intro h j hj
    have h1 := tkl_get (R := R) hj
    rw [h, tkl_get hj] at h1
    exact (Option.some.inj h1).symm
  · intro h
    apply List.map_congr_left
    intro j hj
    exact h j (List.mem_range.mp hj)
theorem tkl_succ {R : Nat → Int} {n : Nat} : tkl R (n + 1) = tkl R n ++ [R n] := by simp [tkl, List.range_succ]
theorem tkl_cons {R : Nat → Int} {n : Nat} : tkl R (n + 1) = R 0 :: tkl (fun j => R (j + 1)) n := by
  simp [tkl, List.range_succ_eq_map]
theorem tkl_app {R : Nat → Int} : ∀ (n m : Nat), tkl R (n + m) = tkl R n ++ tkl (fun j => R (n + j)) m
  | n, 0 => by simp [tkl]
  | n, m + 1 => by
    rw [← Nat.add_assoc, tkl_succ, tkl_succ, tkl_app n m, List.append_assoc]
theorem tkl_of {l : List Int} : tkl (fun j => l.getD j 0) l.length = l := by
  apply List.ext_getElem?
  intro i
  by_cases h : i < l.length
  · rw [tkl_get h]
    simp [h]
  · rw [List.getElem?_eq_none (by rw [tkl_len]; omega), List.getElem?_eq_none (by omega)]
theorem tkl_rev {R : Nat → Int} : ∀ (n : Nat), (tkl R n).reverse = tkl (fun j => R (n - 1 - j)) n := by
  intro n
  apply List.ext_getElem?
  intro i
  by_cases h : i < n
  · rw [tkl_get h, List.getElem?_reverse (by rw [tkl_len]; exact h), tkl_len, tkl_get (by omega)]
  · rw [List.getElem?_eq_none (by rw [List.length_reverse, tkl_len]; omega), List.getElem?_eq_none (by rw [tkl_len]; omega)]
/-- one row is ahead of another in the alphabet -/
def llt : List Int → List Int → Prop
  | a :: x, b :: y => a < b ∨ (a = b ∧ llt x y)
  | _, _ => False
theorem llt_irr : ∀ {x : List Int}, ¬ llt x x
  | [], h => h
  | a :: x, h => by
    rcases h with h | ⟨-, h⟩
    · omega
    · exact llt_irr h
theorem llt_tr : ∀ {x y z : List Int}, llt x y → llt y z → llt x z
  | a :: x, b :: y, c :: z, h1, h2 => by
    rcases h1 with h1 | ⟨h1, g1⟩ <;> rcases h2 with h2 | ⟨h2, g2⟩
    · exact Or.inl (by omega)
    · exact Or.inl (by omega)
    · exact Or.inl (by omega)
    · exact Or.inr ⟨by omega, llt_tr g1 g2⟩
  | [], _, _, h1, _ => h1.elim
  | _ :: _, [], _, h1, _ => h1.elim
  | _ :: _, _ :: _, [], _, h2 => h2.elim
theorem llt_tot : ∀ {x y : List Int}, x.length = y.length → llt x y ∨ x = y ∨ llt y x
  | [], [], _ => Or.inr (Or.inl rfl)
  | a :: x, b :: y, h => by
    by_cases h1 : a < b
    · exact Or.inl (Or.inl h1)
    · by_cases h2 : b < a
      · exact Or.inr (Or.inr (Or.inl h2))
      · have e : a = b := by omega
        subst e
        rcases llt_tot (x := x) (y := y) (by simpa using h) with g | g | g
        · exact Or.inl (Or.inr ⟨rfl, g⟩)
        · exact Or.inr (Or.inl (by rw [g]))
        · exact Or.inr (Or.inr (Or.inr ⟨rfl, g⟩))
  | [], _ :: _, h => by simp at h
  | _ :: _, [], h => by simp at h
theorem llt_ne {x y : List Int} (h : llt x y) : x ≠ y := fun e => llt_irr (e ▸ h)
theorem llt_as {x y : List Int} (h : llt x y) : ¬ llt y x := fun g => llt_irr (llt_tr h g)
theorem llt_app : ∀ {x y u v : List Int}, x.length = y.length → llt x y → llt (x ++ u) (y ++ v)
  | a :: x, b :: y, u, v, h, g => by
    rcases g with g | ⟨e, g⟩
    · exact Or.inl g
    · exact Or.inr ⟨e, llt_app (by simpa using h) g⟩
  | [], [], _, _, _, g => g.elim
  | [], _ :: _, _, _, _, g => g.elim
  | _ :: _, [], _, _, _, g => g.elim
theorem llt_pre : ∀ {x u v : List Int}, llt u v → llt (x ++ u) (x ++ v)
  | [], _, _, h => h
  | _ :: x, _, _, h => Or.inr ⟨rfl, llt_pre (x := x) h⟩
/-- in order, each once -/
def srt (l : List (List Int)) : Prop := l.Pairwise llt
theorem srt_uniq : ∀ {l l' : List (List Int)}, srt l → srt l' → (∀ x, x ∈ l ↔ x ∈ l') → l = l'
  | [], [], _, _, _ => rfl
  | [], b :: l', _, _, h => by have := (h b).mpr List.mem_cons_self; cases this
  | a :: l, [], _, _, h => by have := (h a).mp List.mem_cons_self; cases this
  | a :: l, b :: l', h1, h2, h => by
    obtain ⟨a1, a2⟩ := List.pairwise_cons.mp h1
    obtain ⟨b1, b2⟩ := List.pairwise_cons.mp h2
    have e : a = b := by
      rcases List.mem_cons.mp ((h a).mp List.mem_cons_self) with e | e
      · exact e
      · rcases List.mem_cons.mp ((h b).mpr List.mem_cons_self) with g | g
        · exact g.symm
        · exact absurd (b1 a e) (llt_as (a1 b g))
    subst e
    congr 1
    refine srt_uniq a2 b2 (fun x => ⟨fun hx => ?_, fun hx => ?_⟩)
    · rcases List.mem_cons.mp ((h x).mp (List.mem_cons_of_mem _ hx)) with e | e
      · exact absurd (a1 x hx) (e ▸ llt_irr)
      · exact e
    · rcases List.mem_cons.mp ((h x).mpr (List.mem_cons_of_mem _ hx)) with e | e
      · exact absurd (b1 x hx) (e ▸ llt_irr)
      · exact e
/-- which comes first, as a program finds it: the first difference -/
def lcm_ : List Int → List Int → Int
  | a :: x, b :: y => if a = b then lcm_ x y else a - b
  | _, _ => 0
theorem lcm_lt : ∀ {x y : List Int}, x.length = y.length → (lcm_ x y < 0 ↔ llt x y)
  | [], [], _ => by simp [lcm_, llt]
  | a :: x, b :: y, h => by
    simp only [lcm_, llt]
    by_cases e : a = b
    · subst e
      rw [if_pos rfl, lcm_lt (x := x) (y := y) (by simpa using h)]
      simp
    · rw [if_neg e]
      constructor
      · intro h; exact Or.inl (by omega)
      · rintro (h | ⟨h, -⟩)
        · omega
        · exact absurd h e
  | [], _ :: _, h => by simp at h
  | _ :: _, [], h => by simp at h
theorem lcm_eq : ∀ {x y : List Int}, x.length = y.length → (lcm_ x y = 0 ↔ x = y)
  | [], [], _ => by simp [lcm_]
  | a :: x, b :: y, h => by
    simp only [lcm_]
    by_cases e : a = b
    · subst e
      rw [if_pos rfl, lcm_eq (x := x) (y := y) (by simpa using h)]
      simp
    · rw [if_neg e]
      constructor
      · intro h; omega
      · intro h; simp at h; exact absurd h.1 e
  | [], _ :: _, h => by simp at h
  | _ :: _, [], h => by simp at h
theorem lcm_sw : ∀ {x y : List Int}, x.length = y.length → lcm_ y x = - lcm_ x y
  | [], [], _ => by simp [lcm_]
  | a :: x, b :: y, h => by
    simp only [lcm_]
    by_cases e : a = b
    · subst e
      rw [if_pos rfl, if_pos rfl]
      exact lcm_sw (by simpa using h)
    · rw [if_neg e, if_neg (fun q => e q.symm)]
      omega
  | [], _ :: _, h => by simp at h
  | _ :: _, [], h => by simp at h
theorem lcm_gt {x y : List Int} (h : x.length = y.length) : 0 < lcm_ x y ↔ llt y x := by
  rw [← lcm_lt h.symm, lcm_sw h]
  omega
/-- two rows in order laid together, each once -/
def mrg : Nat → List (List Int) → List (List Int) → List (List Int)
  | 0, _, _ => []
  | n + 1, [], y => y
  | n + 1, x :: xs, [] => x :: xs
  | n + 1, x :: xs, y :: ys => if lcm_ x y < 0 then x :: mrg n xs (y :: ys) else if lcm_ x y = 0 then x :: mrg n xs ys else y :: mrg n (x :: xs) ys
theorem mrg_mem : ∀ {n : Nat} {a b : List (List Int)} {N : Nat}, a.length + b.length < n → (∀ x ∈ a, x.length = N) → (∀ x ∈ b, x.length = N) → ∀ z, z ∈ mrg n a b ↔ z ∈ a ∨ z ∈ b
  | n + 1, [], y, N, _, _, _, z => by simp [mrg]
  | n + 1, x :: xs, [], N, _, _, _, z => by simp [mrg]
  | n + 1, x :: xs, y :: ys, N, hn, ha, hb, z => by
    simp only [List.length_cons] at hn
    simp only [mrg]
    split
    · rw [List.mem_cons, mrg_mem (n := n) (a := xs) (b := y :: ys) (N := N) (by simp; omega) (fun q hq => ha q (List.mem_cons_of_mem _ hq)) hb]
      simp only [List.mem_cons]
      constructor
      · rintro (h | h | h | h)
        · exact Or.inl (Or.inl h)
        · exact Or.inl (Or.inr h)
        · exact Or.inr (Or.inl h)
        · exact Or.inr (Or.inr h)
      · rintro ((h | h) | (h | h))
        · exact Or.inl h
        · exact Or.inr (Or.inl h)
        · exact Or.inr (Or.inr (Or.inl h))
        · exact Or.inr (Or.inr (Or.inr h))
    · split
      next h1 h2 =>
        have e : x = y := (lcm_eq ((ha x List.mem_cons_self).trans (hb y List.mem_cons_self).symm)).mp h2
        subst e
        rw [List.mem_cons, mrg_mem (n := n) (a := xs) (b := ys) (N := N) (by omega) (fun q hq => ha q (List.mem_cons_of_mem _ hq)) (fun q hq => hb q (List.mem_cons_of_mem _ hq))]
        simp only [List.mem_cons]
        constructor
        · rintro (h | h | h)
          · exact Or.inl (Or.inl h)
          · exact Or.inl (Or.inr h)
          · exact Or.inr (Or.inr h)
        · rintro ((h | h) | (h | h))
          · exact Or.inl h
          · exact Or.inr (Or.inl h)
          · exact Or.inl h
          · exact Or.inr (Or.inr h)
      next h1 h2 =>
        rw [List.mem_cons, mrg_mem (n := n) (a := x :: xs) (b := ys) (N := N) (by simp; omega) ha (fun q hq => hb q (List.mem_cons_of_mem _ hq))]
        simp only [List.mem_cons]
        constructor
        · rintro (h | (h | h) | h)
          · exact Or.inr (Or.inl h)
          · exact Or.inl (Or.inl h)
          · exact Or.inl (Or.inr h)
          · exact Or.inr (Or.inr h)
        · rintro ((h | h) | (h | h))
          · exact Or.inr (Or.inl (Or.inl h))
          · exact Or.inr (Or.inl (Or.inr h))
          · exact Or.inl h
          · exact Or.inr (Or.inr h)
theorem mrg_srt : ∀ {n : Nat} {a b : List (List Int)} {N : Nat}, a.length + b.length < n → (∀ x ∈ a, x.length = N) → (∀ x ∈ b, x.length = N) → srt a → srt b → srt (mrg n a b)
  | n + 1, [], y, N, _, _, _, _, h => by simpa [mrg] using h
  | n + 1, x :: xs, [], N, _, _, _, h, _ => by simpa [mrg] using h
  | n + 1, x :: xs, y :: ys, N, hn, ha, hb, h1, h2 => by
    simp only [List.length_cons] at hn
    have hl : x.length = y.length := (ha x List.mem_cons_self).trans (hb y List.mem_cons_self).symm
    have ha' : ∀ q ∈ xs, q.length = N := fun q hq => ha q (List.mem_cons_of_mem _ hq)
    have hb' : ∀ q ∈ ys, q.length = N := fun q hq => hb q (List.mem_cons_of_mem _ hq)
    obtain ⟨a1, a2⟩ := List.pairwise_cons.mp h1
    obtain ⟨b1, b2⟩ := List.pairwise_cons.mp h2
    simp only [mrg]
    split
    next c =>
      have hxy := (lcm_lt hl).mp c
      refine List.pairwise_cons.mpr ⟨fun z hz => ?_, mrg_srt (N := N) (by simp; omega) ha' hb a2 h2⟩
      rcases (mrg_mem (N := N) (by simp; omega) ha' hb z).mp hz with h | h
      · exact a1 z h
      · rcases List.mem_cons.mp h with e | e
        · exact e ▸ hxy
        · exact llt_tr hxy (b1 z e)
    next c =>
      split
      next c2 =>
        have e := (lcm_eq hl).mp c2
        subst e
        refine List.pairwise_cons.mpr ⟨fun z hz => ?_, mrg_srt (N := N) (by omega) ha' hb' a2 b2⟩
        rcases (mrg_mem (N := N) (by omega) ha' hb' z).mp hz with h | h
        · exact a1 z h
        · exact b1 z h
      next c2 =>
        have hyx := (lcm_gt hl).mp (by omega)
        refine List.pairwise_cons.mpr ⟨fun z hz => ?_, mrg_srt (N := N) (by simp; omega) ha hb' h1 b2⟩
        rcases (mrg_mem (N := N) (by simp; omega) ha hb' z).mp hz with h | h
        · rcases List.mem_cons.mp h with e | e
          · exact e ▸ hyx
          · exact llt_tr hyx (a1 z e)
        · exact b1 z h
theorem mrg_len : ∀ {n : Nat} {a b : List (List Int)}, a.length + b.length < n → (mrg n a b).length ≤ a.length + b.length
  | n + 1, [], y, _ => by simp [mrg]
  | n + 1, x :: xs, [], _ => by simp [mrg]
  | n + 1, x :: xs, y :: ys, hn => by
    simp only [List.length_cons] at hn
    simp only [mrg]
    split
    · have := mrg_len (n := n) (a := xs) (b := y :: ys) (by simp; omega)
      simp only [List.length_cons] at this ⊢
      omega
    · split
      · have := mrg_len (n := n) (a := xs) (b := ys) (by omega)
        simp only [List.length_cons] at this ⊢
        omega
      · have := mrg_len (n := n) (a := x :: xs) (b := ys) (by simp; omega)
        simp only [List.length_cons] at this ⊢
        omega
