-- the rows that parts tell from one end, each part forward or backward
def dgs : List (List Int) → Nat
  | [] => 0
  | q :: qs => if q = q.reverse then dgs qs else dgs qs + 1
def rE : List (List Int) → List (List Int)
  | [] => [[]]
  | q :: qs => (rE qs).map (fun y => q ++ y) ++ (if q = q.reverse then [] else (rE qs).map (fun y => q.reverse ++ y))
def tln : List (List Int) → Nat
  | [] => 0
  | q :: qs => q.length + tln qs
/-- a row that parts can tell -/
def chs : List (List Int) → List Int → Prop
  | [], x => x = []
  | q :: qs, x => ∃ y, chs qs y ∧ (x = q ++ y ∨ x = q.reverse ++ y)
theorem rE_len : ∀ (ps : List (List Int)), (rE ps).length = 2 ^ dgs ps
  | [] => rfl
  | q :: qs => by
    simp only [rE, dgs]
    split
    · simp [rE_len qs]
    · simp only [List.length_append, List.length_map, rE_len qs, Nat.pow_succ]
      omega
theorem rE_mem : ∀ {ps : List (List Int)} {x : List Int}, x ∈ rE ps ↔ chs ps x
  | [], x => by simp [rE, chs]
  | q :: qs, x => by
    simp only [rE, chs, List.mem_append, List.mem_map]
    constructor
    · rintro (⟨y, h1, rfl⟩ | h)
      · exact ⟨y, rE_mem.mp h1, Or.inl rfl⟩
      · split at h
        · cases h
        · obtain ⟨y, h1, rfl⟩ := List.mem_map.mp h
          exact ⟨y, rE_mem.mp h1, Or.inr rfl⟩
    · rintro ⟨y, h1, rfl | rfl⟩
      · exact Or.inl ⟨y, rE_mem.mpr h1, rfl⟩
      · by_cases c : q = q.reverse
        · exact Or.inl ⟨y, rE_mem.mpr h1, by rw [← c]⟩
        · refine Or.inr ?_
          rw [if_neg c]
          exact List.mem_map.mpr ⟨y, rE_mem.mpr h1, rfl⟩
theorem chs_len : ∀ {ps : List (List Int)} {x : List Int}, chs ps x → x.length = tln ps
  | [], x, h => by rw [h]; rfl
  | q :: qs, x, ⟨y, h1, h2⟩ => by
    have := chs_len h1
    rcases h2 with rfl | rfl <;> simp [tln, this]
theorem rE_llen {ps : List (List Int)} {x : List Int} (h : x ∈ rE ps) : x.length = tln ps := chs_len (rE_mem.mp h)
/-- the lesser way first -/
def lsf (q : List Int) : Prop := q = q.reverse ∨ llt q q.reverse
theorem rE_srt : ∀ {ps : List (List Int)}, (∀ q ∈ ps, lsf q) → srt (rE ps)
  | [], _ => by simp [rE, srt]
  | q :: qs, h => by
    have ih := rE_srt (ps := qs) (fun z hz => h z (List.mem_cons_of_mem _ hz))
    have m1 : ∀ (r : List Int), srt ((rE qs).map (fun y => r ++ y)) := fun r => List.pairwise_map.mpr (ih.imp (fun g => llt_pre g))
    simp only [rE]
    split
    · rw [List.append_nil]; exact m1 q
    next c =>
      refine List.pairwise_append.mpr ⟨m1 q, m1 q.reverse, fun x hx y hy => ?_⟩
      obtain ⟨u, -, rfl⟩ := List.mem_map.mp hx
      obtain ⟨v, -, rfl⟩ := List.mem_map.mp hy
      rcases h q List.mem_cons_self with e | e
      · exact absurd e c
      · exact llt_app (by simp) e
/-- the row that stands when the parts with a digit are turned as F says -/
def rowG : List (List Int) → (Nat → Bool) → List Int
  | [], _ => []
  | q :: qs, F => if q = q.reverse then q ++ rowG qs F else (if F 0 = true then q.reverse else q) ++ rowG qs (fun t => F (t + 1))
theorem rowG_len : ∀ (ps : List (List Int)) (F : Nat → Bool), (rowG ps F).length = tln ps
  | [], _ => rfl
  | q :: qs, F => by
    simp only [rowG, tln]
    split
    · rw [List.length_append, rowG_len qs]
    · rw [List.length_append, rowG_len qs]
      split <;> simp
theorem rowG_cg : ∀ {ps : List (List Int)} {F G : Nat → Bool}, (∀ t, t < dgs ps → F t = G t) → rowG ps F = rowG ps G
  | [], _, _, _ => rfl
  | q :: qs, F, G, h => by
    simp only [rowG, dgs] at h ⊢
    split
    next c => rw [rowG_cg (fun t ht => h t (by rw [if_pos c]; exact ht))]
    next c =>
      rw [if_neg c] at h
      rw [h 0 (by omega), rowG_cg (F := fun t => F (t + 1)) (G := fun t => G (t + 1)) (fun t ht => h (t + 1) (by omega))]
def flg (D m t : Nat) : Bool := decide (m / 2 ^ (D - 1 - t) % 2 = 1)
theorem rE_get : ∀ {ps : List (List Int)} {m : Nat}, m < 2 ^ dgs ps → (rE ps)[m]? = some (rowG ps (flg (dgs ps) m))
  | [], m, h => by
    have : m = 0 := by simpa [dgs] using h
    subst this
    rfl
  | q :: qs, m, h => by
    by_cases c : q = q.reverse
    · have hd : dgs (q :: qs) = dgs qs := by rw [dgs, if_pos c]
      rw [hd] at h ⊢
      rw [rE, if_pos c, List.append_nil, List.getElem?_map, rE_get h, rowG, if_pos c]
      rfl
    · have hd : dgs (q :: qs) = dgs qs + 1 := by rw [dgs, if_neg c]
      have hK : 0 < 2 ^ dgs qs := Nat.two_pow_pos _
      rw [hd, Nat.pow_succ] at h
      rw [hd, rE, if_neg c, rowG, if_neg c]
      have e0 : dgs qs + 1 - 1 - 0 = dgs qs := by omega
      by_cases c2 : m < 2 ^ dgs qs
      · rw [List.getElem?_append_left (by rw [List.length_map, rE_len]; exact c2), List.getElem?_map, rE_get c2]
        have f0 : flg (dgs qs + 1) m 0 = false := by simp [flg, e0, Nat.div_eq_of_lt c2]
        rw [f0, if_neg (by decide)]
        show some _ = _
        congr 2
        refine rowG_cg (fun t ht => ?_)
        simp only [flg]
        rw [show dgs qs + 1 - 1 - (t + 1) = dgs qs - 1 - t by omega]
      · have hm : m - 2 ^ dgs qs < 2 ^ dgs qs := by omega
        rw [List.getElem?_append_right (by rw [List.length_map, rE_len]; omega), List.length_map, rE_len, List.getElem?_map, rE_get hm]
        have f0 : flg (dgs qs + 1) m 0 = true := by
          have : m / 2 ^ dgs qs = 1 := by
            rw [Nat.div_eq_iff hK]
            omega
          simp [flg, e0, this]
        rw [f0, if_pos rfl]
        show some _ = _
        congr 2
        refine rowG_cg (fun t ht => ?_)
        simp only [flg]
        rw [show dgs qs + 1 - 1 - (t + 1) = dgs qs - 1 - t by omega]
        have hp : 2 ^ dgs qs = 2 ^ (dgs qs - 1 - t) * (2 * 2 ^ t) := by
          rw [← Nat.mul_assoc, ← Nat.pow_succ, ← Nat.pow_add]
          congr 1
          omega
        have hm2 : m = (m - 2 ^ dgs qs) + 2 ^ (dgs qs - 1 - t) * (2 * 2 ^ t) := by omega
        have hq : m / 2 ^ (dgs qs - 1 - t) = (m - 2 ^ dgs qs) / 2 ^ (dgs qs - 1 - t) + 2 * 2 ^ t := by
          conv => lhs; rw [hm2]
          exact Nat.add_mul_div_left _ _ (Nat.two_pow_pos _)
        rw [hq, Nat.add_mul_mod_self_left]
/-- where the parts with a digit stand -/
def dst : List (List Int) → Nat → Nat → Nat × Nat
  | [], _ => fun _ => (0, 0)
  | q :: qs, off => if q = q.reverse then dst qs (off + q.length) else fun t => match t with
    | 0 => (off, off + q.length)
    | t + 1 => dst qs (off + q.length) t
def tog (F : Nat → Bool) (t : Nat) : Nat → Bool := fun j => if j = t then !F j else F j
theorem rowG_tog : ∀ {ps : List (List Int)} {F : Nat → Bool} {off t : Nat}, t < dgs ps → ∃ X P Y, rowG ps F = X ++ (P ++ Y) ∧ rowG ps (tog F t) = X ++ (P.reverse ++ Y) ∧ (dst ps off t).1 = off + X.length ∧ (dst ps off t).2 = off + X.length + P.length
  | [], _, _, _, h => by simp [dgs] at h
  | q :: qs, F, off, t, h => by
    by_cases c : q = q.reverse
    · have hd : dgs (q :: qs) = dgs qs := by rw [dgs, if_pos c]
      rw [hd] at h
      obtain ⟨X, P, Y, h1, h2, h3, h4⟩ := rowG_tog (ps := qs) (F := F) (off := off + q.length) h
      refine ⟨q ++ X, P, Y, ?_, ?_, ?_, ?_⟩
      · rw [rowG, if_pos c, h1, List.append_assoc]
      · rw [rowG, if_pos c, h2, List.append_assoc]
      · rw [dst, if_pos c, h3, List.length_append]; omega
      · rw [dst, if_pos c, h4, List.length_append]; omega
    · have hd : dgs (q :: qs) = dgs qs + 1 := by rw [dgs, if_neg c]
      rw [hd] at h
      cases t with
      | zero =>
        refine ⟨[], if F 0 = true then q.reverse else q, rowG qs (fun t => F (t + 1)), ?_, ?_, ?_, ?_⟩
        · rw [rowG, if_neg c]; rfl
        · rw [rowG, if_neg c]
          have e1 : rowG qs (fun t => tog F 0 (t + 1)) = rowG qs (fun t => F (t + 1)) := rowG_cg (fun t _ => by simp [tog])
          rw [e1]
          have e2 : tog F 0 0 = !F 0 := by simp [tog]
          rw [e2]
          cases F 0 <;> simp
        · rw [dst, if_neg c]; simp
        · rw [dst, if_neg c]
          simp only [List.length_nil, Nat.add_zero]
          split <;> simp
      | succ t =>
        obtain ⟨X, P, Y, h1, h2, h3, h4⟩ := rowG_tog (ps := qs) (F := fun t => F (t + 1)) (off := off + q.length) (t := t) (by omega)
        refine ⟨(if F 0 = true then q.reverse else q) ++ X, P, Y, ?_, ?_, ?_, ?_⟩
        · rw [rowG, if_neg c, h1, List.append_assoc]
        · rw [rowG, if_neg c]
          have e1 : (fun s => tog F (t + 1) (s + 1)) = tog (fun s => F (s + 1)) t := by
            funext s
            simp [tog]
          rw [e1, h2, List.append_assoc]
          have e2 : tog F (t + 1) 0 = F 0 := by simp [tog]
          rw [e2]
        · rw [dst, if_neg c, List.length_append]
          dsimp only
          rw [h3]
          split <;> (try simp only [List.length_reverse]) <;> omega
        · rw [dst, if_neg c, List.length_append]
          dsimp only
          rw [h4]
          split <;> (try simp only [List.length_reverse]) <;> omega
theorem dst_le {ps : List (List Int)} {off t : Nat} (h : t < dgs ps) : off ≤ (dst ps off t).1 ∧ (dst ps off t).1 ≤ (dst ps off t).2 ∧ (dst ps off t).2 ≤ off + tln ps := by
  obtain ⟨X, P, Y, h1, h2, h3, h4⟩ := rowG_tog (ps := ps) (F := fun _ => false) (off := off) h
  have := rowG_len ps (fun _ => false)
  rw [h1] at this
  simp only [List.length_append] at this
  omega
/-- one part more, at the end -/
theorem dgs_snoc : ∀ (ps : List (List Int)) (q : List Int), dgs (ps ++ [q]) = dgs ps + (if q = q.reverse then 0 else 1)
  | [], q => by simp only [List.nil_append, dgs]; split <;> rfl
  | p :: ps, q => by
    simp only [List.cons_append, dgs, dgs_snoc ps q]
    split <;> omega
theorem tln_snoc : ∀ (ps : List (List Int)) (q : List Int), tln (ps ++ [q]) = tln ps + q.length
  | [], q => by simp [tln]
  | p :: ps, q => by simp only [List.cons_append, tln, tln_snoc ps q]; omega
theorem dst_snoc : ∀ {ps : List (List Int)} {q : List Int} {off t : Nat}, t < dgs ps → dst (ps ++ [q]) off t = dst ps off t
  | [], _, _, _, h => by simp [dgs] at h
  | p :: ps, q, off, t, h => by
    by_cases c : p = p.reverse
    · rw [dgs, if_pos c] at h
      rw [List.cons_append, dst, if_pos c, dst, if_pos c, dst_snoc h]
    · rw [dgs, if_neg c] at h
      rw [List.cons_append, dst, if_neg c, dst, if_neg c]
      cases t with
      | zero => rfl
      | succ t => exact dst_snoc (by omega)
theorem dst_last : ∀ {ps : List (List Int)} {q : List Int} {off : Nat}, ¬ q = q.reverse → dst (ps ++ [q]) off (dgs ps) = (off + tln ps, off + tln ps + q.length)
  | [], q, off, h => by
    rw [List.nil_append, dst, if_neg h]
    rfl
  | p :: ps, q, off, h => by
    have ih := dst_last (ps := ps) (q := q) (off := off + p.length) h
    by_cases c : p = p.reverse
    · rw [List.cons_append, dst, if_pos c, dgs, if_pos c, ih, tln]
      simp only [Prod.mk.injEq]
      omega
    · rw [List.cons_append, dst, if_neg c, dgs, if_neg c]
      dsimp only
      rw [ih, tln]
      simp only [Prod.mk.injEq]
      omega
theorem rowG_snoc : ∀ (ps : List (List Int)) (q : List Int), rowG (ps ++ [q]) (fun _ => false) = rowG ps (fun _ => false) ++ q
  | [], q => by
    show (if q = q.reverse then q ++ [] else (if (false = true) then q.reverse else q) ++ []) = [] ++ q
    split <;> simp
  | p :: ps, q => by
    rw [List.cons_append, rowG, rowG_snoc ps q, rowG]
    split <;> simp
