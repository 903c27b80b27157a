-- how many rows both ends tell
theorem pal_dec {q : List Int} : (if q = q.reverse then (1 : Nat) else 0) = if q.reverse = q.reverse.reverse then 1 else 0 := by
  rw [List.reverse_reverse]
  by_cases c : q = q.reverse
  · rw [if_pos c, if_pos c.symm]
  · rw [if_neg c, if_neg (fun e => c e.symm)]
theorem rE_perm : ∀ (ps : List (List Int)), (rE (ps.map lsr)).Perm (rE ps)
  | [] => List.Perm.refl _
  | q :: qs => by
    have ih := rE_perm qs
    simp only [List.map_cons, rE]
    rcases lsr_rev (q := q) with h | h
    · rw [h]
      refine (ih.map _).append ?_
      split
      · exact List.Perm.refl _
      · exact ih.map _
    · rw [h, List.reverse_reverse]
      by_cases c : q = q.reverse
      · rw [if_pos c.symm, if_pos c, ← c]
        exact (ih.map _).append (List.Perm.refl _)
      · rw [if_neg (fun e => c e.symm), if_neg c]
        exact List.perm_append_comm.trans ((ih.map _).append (ih.map _))
theorem mrg_cnt : ∀ {n : Nat} {a b : List (List Int)} {N : Nat}, a.length + b.length < n → (∀ x ∈ a, x.length = N) → (∀ x ∈ b, x.length = N) → srt a → srt b → (mrg n a b).length + (a.filter (fun x => decide (x ∈ b))).length = a.length + b.length
  | n + 1, [], y, N, _, _, _, _, _ => by simp [mrg]
  | n + 1, x :: xs, [], N, _, _, _, _, _ => by simp [mrg]
  | n + 1, x :: xs, y :: ys, N, hn, ha, hb, sa, sb => by
    simp only [List.length_cons] at hn
    have hl : x.length = y.length := (ha x List.mem_cons_self).trans (hb y List.mem_cons_self).symm
    have ha' := fun q hq => ha q (List.mem_cons_of_mem x hq)
    have hb' := fun q hq => hb q (List.mem_cons_of_mem y hq)
    have sa' := (List.pairwise_cons.mp sa)
    have sb' := (List.pairwise_cons.mp sb)
    rw [mrg]
    by_cases c1 : lcm_ x y < 0
    · have hxy := (lcm_lt hl).mp c1
      rw [if_pos c1]
      have ih := mrg_cnt (n := n) (a := xs) (b := y :: ys) (N := N) (by simp; omega) ha' hb sa'.2 sb
      have hno : ¬ x ∈ y :: ys := by
        intro h
        rcases List.mem_cons.mp h with e | e
        · exact llt_ne hxy e
        · exact llt_irr (llt_tr hxy (sb'.1 x e))
      rw [List.filter_cons, if_neg (by simpa using hno)]
      simp only [List.length_cons] at ih ⊢
      omega
    · rw [if_neg c1]
      by_cases c2 : lcm_ x y = 0
      · have hxy := (lcm_eq hl).mp c2
        subst hxy
        rw [if_pos c2]
        have ih := mrg_cnt (n := n) (a := xs) (b := ys) (N := N) (by omega) ha' hb' sa'.2 sb'.2
        have hf : xs.filter (fun z => decide (z ∈ x :: ys)) = xs.filter (fun z => decide (z ∈ ys)) := by
          refine List.filter_congr (fun z hz => ?_)
          have h1 := sa'.1 z hz
          have h2 : z ≠ x := fun e => llt_irr (e ▸ h1)
          simp [h2]
        rw [List.filter_cons, if_pos (by simp), hf]
        simp only [List.length_cons] at ih ⊢
        omega
      · have hyx : llt y x := (lcm_gt hl).mp (by omega)
        rw [if_neg c2]
        have ih := mrg_cnt (n := n) (a := x :: xs) (b := ys) (N := N) (by simp; omega) ha hb' sa sb'.2
        have hf : (x :: xs).filter (fun z => decide (z ∈ y :: ys)) = (x :: xs).filter (fun z => decide (z ∈ ys)) := by
          refine List.filter_congr (fun z hz => ?_)
          have h2 : z ≠ y := by
            rcases List.mem_cons.mp hz with e | e
            · exact fun q => llt_irr (q ▸ e ▸ hyx)
            · exact fun q => llt_irr (q ▸ llt_tr hyx (sa'.1 z e))
          simp [h2]
        rw [hf]
        simp only [List.length_cons] at ih ⊢
        omega
/-- of what the parts from i on tell, how many rows the other end tells, too -/
def cB (t : Sc) (pre : List Int) (i : Nat) : Nat := ((rE ((ptl t false).drop i)).filter (fun y => decide (pre ++ y ∈ rE (ptl t true)))).length
theorem ptl_drop {t : Sc} {i : Nat} (h : i < t.1) : (ptl t false).drop i = pat t i :: (ptl t false).drop (i + 1) := by
  have hl : i < (ptl t false).length := by simp [ptl, h]
  rw [List.drop_eq_getElem_cons hl]
  congr 1
  simp [ptl, zpi_]
theorem cB_s {t : Sc} {pre : List Int} {i : Nat} (h : i < t.1) : cB t pre i = cB t (pre ++ pat t i) (i + 1) + if pat t i = (pat t i).reverse then 0 else cB t (pre ++ (pat t i).reverse) (i + 1) := by
  rw [cB, ptl_drop h, rE, List.filter_append, List.length_append, List.filter_map, List.length_map, cB]
  congr 1
  · congr 2
    funext y
    simp [Function.comp]
  · split
    · rfl
    · rw [List.filter_map, List.length_map, cB]
      congr 2
      funext y
      simp [Function.comp]
theorem cB_le {t : Sc} {pre : List Int} {i : Nat} (hw : wS t.1 t.2.1 t.2.2) : cB t pre i ≤ 64 := by
  refine Nat.le_trans (List.length_filter_le _ _) ?_
  rw [rE_len]
  refine Nat.le_trans (Nat.pow_le_pow_right (n := 2) (by decide) (?_ : _ ≤ 6)) (by decide)
  have h1 := dgs_le ((ptl t false).drop i)
  have h2 : (ptl t false).length = t.1 := by simp [ptl]
  rw [List.length_drop, h2] at h1
  have := hw.2.1
  omega
theorem zbw_cg {p known : Nat} {b : Nat → Nat} {f R R' : Nat → Int} {fl : Bool} (h : zbw p b f fl R known) (e : ∀ j, j < known → R j = R' j) : zbw p b f fl R' known := by
  intro i hi hk
  rcases h i hi hk with g | g
  · exact Or.inl (fun j h1 h2 => by rw [← e _ h2]; exact g j h1 h2)
  · exact Or.inr (fun j h1 h2 => by rw [← e _ h2]; exact g j h1 h2)
theorem zbw_le {p known known' : Nat} {b : Nat → Nat} {f R : Nat → Int} {fl : Bool} (h : zbw p b f fl R known) (hk : known' ≤ known) : zbw p b f fl R known' := by
  intro i hi hk'
  rcases h i hi (by omega) with g | g
  · exact Or.inl (fun j h1 h2 => g j h1 (by omega))
  · exact Or.inr (fun j h1 h2 => g j h1 (by omega))
theorem tln_drop {t : Sc} (hw : wS t.1 t.2.1 t.2.2) {i : Nat} (h : i ≤ t.1) : tln ((ptl t false).drop i) = t.2.1 t.1 - t.2.1 i := by
  have key : ∀ (m i : Nat), i + m = t.1 → tln ((ptl t false).drop i) = t.2.1 t.1 - t.2.1 i := by
    intro m
    induction m with
    | zero =>
      intro i hi
      have hl : (ptl t false).length = t.1 := by simp [ptl]
      rw [List.drop_eq_nil_of_le (by omega), show i = t.1 by omega, Nat.sub_self]
      rfl
    | succ m ih =>
      intro i hi
      rw [ptl_drop (by omega), tln, ih (i + 1) (by omega), pat, slc_len]
      have h1 := hw.2.2.2.1 i (by omega)
      have h2 := hw.le (show i + 1 ≤ t.1 by omega) (Nat.le_refl t.1)
      omega
  exact key (t.1 - i) i (by omega)
theorem cB_no {t : Sc} (hw : wS t.1 t.2.1 t.2.2) {i : Nat} {R : Nat → Int} (hi : i ≤ t.1) (h : ¬ zbw t.1 t.2.1 t.2.2 true R (t.2.1 i)) : cB t (tkl R (t.2.1 i)) i = 0 := by
  rw [cB, List.length_eq_zero_iff, List.filter_eq_nil_iff]
  intro y hy hin
  have hin := of_decide_eq_true hin
  apply h
  have hly := rE_llen hy
  rw [tln_drop hw hi] at hly
  have hle := hw.le hi (Nat.le_refl t.1)
  have hlen : (tkl R (t.2.1 i) ++ y).length = t.2.1 t.1 := by rw [List.length_append, tkl_len, hly]; omega
  have ht := tkl_of (l := tkl R (t.2.1 i) ++ y)
  rw [hlen] at ht
  have h1 := (bw_iff (fl := true) (R := fun j => (tkl R (t.2.1 i) ++ y).getD j 0) hw).mpr (by rw [ht]; exact rE_mem.mp hin)
  refine zbw_cg (zbw_le h1 hle) (fun j hj => ?_)
  rw [List.getD_eq_getElem?_getD, List.getElem?_append_left (by rw [tkl_len]; exact hj), tkl_get hj]
  rfl
theorem cB_end {t : Sc} (hw : wS t.1 t.2.1 t.2.2) {R : Nat → Int} (h : zbw t.1 t.2.1 t.2.2 true R (t.2.1 t.1)) : cB t (tkl R (t.2.1 t.1)) t.1 = 1 := by
  have hl : (ptl t false).length = t.1 := by simp [ptl]
  have hin : tkl R (t.2.1 t.1) ∈ rE (ptl t true) := rE_mem.mpr ((bw_iff hw).mp h)
  rw [cB, List.drop_eq_nil_of_le (by omega), rE, List.filter_cons, if_pos (by simpa using hin)]
  rfl
theorem wys_pow {t : Sc} (hw : wS t.1 t.2.1 t.2.2) : ∀ i, i ≤ t.1 → wys t.2.1 t.2.2 i = 2 ^ dgs ((ptl t false).take i)
  | 0, _ => by simp [wys, dgs]
  | i + 1, hi => by
    have ih := wys_pow hw i (by omega)
    have hg : (ptl t false)[i]? = some (pat t i) := by simp [ptl, show i < t.1 by omega, zpi_]
    have hlt := hw.2.2.2.1 i (by omega)
    rw [List.take_succ, hg]
    simp only [Option.toList_some]
    rw [dgs_snoc, wys, evn]
    have hp : otp t.2.2 (t.2.1 i) (t.2.1 (i + 1)) = 0 ↔ pat t i = (pat t i).reverse := otp_pal (by omega)
    by_cases c : pat t i = (pat t i).reverse
    · rw [if_pos c, if_pos (decide_eq_true (hp.mpr c)), ih, Nat.add_zero]
    · rw [if_neg c, if_neg (by simpa using fun q => c (hp.mp q)), ih, Nat.pow_succ]
theorem dgs_app : ∀ (a b : List (List Int)), dgs (a ++ b) = dgs a + dgs b
  | [], b => by simp [dgs]
  | q :: qs, b => by
    simp only [List.cons_append, dgs, dgs_app qs b]
    split <;> omega
theorem dgs_rev : ∀ (a : List (List Int)), dgs a.reverse = dgs a
  | [] => rfl
  | q :: qs => by
    rw [List.reverse_cons, dgs_app, dgs_rev qs]
    simp only [dgs]
    split <;> omega
theorem ptl_rev {t : Sc} : ptl t true = (ptl t false).reverse := by
  apply List.ext_getElem?
  intro i
  by_cases h : i < t.1
  · rw [List.getElem?_reverse (by simp [ptl, h])]
    simp [ptl, h, zpi_]
    have : t.1 - 1 - i < t.1 := by omega
    simp [this]
  · rw [List.getElem?_eq_none (by simp [ptl]; omega), List.getElem?_eq_none (by simp [ptl]; omega)]
/-- how many readings a scroll has -/
theorem RD_cnt {t : Sc} (hw : wS t.1 t.2.1 t.2.2) : (RD t).length + cB t [] 0 = 2 * wys t.2.1 t.2.2 t.1 := by
  have h1 := rEs_n (fl := false) hw
  have h2 := rEs_n (fl := true) hw
  have hl : (ptl t false).length = t.1 := by simp [ptl]
  have hc := mrg_cnt (n := 200) (a := rEs t false) (b := rEs t true) (by omega) (rEs_ll hw) (rEs_ll hw) rEs_srt rEs_srt
  have hp : ((rEs t false).filter (fun x => decide (x ∈ rEs t true))).length = cB t [] 0 := by
    rw [cB, List.drop_zero]
    have e1 : (fun x => decide (x ∈ rEs t true)) = (fun y => decide (([] : List Int) ++ y ∈ rE (ptl t true))) := by
      funext y
      rw [List.nil_append]
      have : y ∈ rEs t true ↔ y ∈ rE (ptl t true) := rEs_mem.trans rE_mem.symm
      simp [this]
    rw [e1]
    exact ((rE_perm (ptl t false)).filter _).length_eq
  have hA : (rEs t false).length = wys t.2.1 t.2.2 t.1 := by
    rw [rEs, rE_len, prt, dgs_lsr, wys_pow hw t.1 (Nat.le_refl _), List.take_of_length_le (by omega)]
  have hB : (rEs t true).length = wys t.2.1 t.2.2 t.1 := by
    rw [rEs, rE_len, prt, dgs_lsr, ptl_rev, dgs_rev, wys_pow hw t.1 (Nat.le_refl _), List.take_of_length_le (by omega)]
  rw [RD]
  omega
