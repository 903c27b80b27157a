-- fields, arrays, new cells, calls, returns
theorem zup_same {M : zM} {a : Nat} {c : zC} : zup M a c a = some c := by simp [zup]
theorem zup_ne {M : zM} {a q : Nat} {c : zC} (h : q ≠ a) : zup M a c q = M q := by simp [zup, h]
theorem zSome {α : Type} {x : Option α} {a : α} (h : x = some a) : x ≠ none := by rw [h]; simp
theorem zfs_at {fs : List zV} {kf : Nat} {v : zV} (h : zg fs kf = some v) : (fs.map tv)[kf]? = some (tv v) := by rw [List.getElem?_map, zg_mem h]; rfl
/-- one cell is written: the memory and the heap go on together -/
theorem zH_in {D : va_G} {cA : Nat → ClassId} {lo : Nat} {M : zM} {H : Heap} {a : Nat} {c : zC} (h : zH D cA lo M H) (ha : M a = some c) (hk : zk5 c = false) : lo ≤ a ∧ a < H.size := by
  by_cases hlo : lo ≤ a
  · exact ⟨hlo, (h.2.1 a hlo).mp (zSome ha)⟩
  · have := h.2.2.2 a c (by omega) ha
    rw [hk] at this
    cases this
theorem zH_set {D : va_G} {cA : Nat → ClassId} {lo : Nat} {M : zM} {H H1 : Heap} {a : Nat} {c : zC} (h : zH D cA lo M H) (ha : lo ≤ a ∧ a < H.size) (hs : H1.size = H.size) (he : va_at D vwCl (a, zE cA c) H1) (ho : ∀ q : Nat, q ≠ a → H1[q]? = H[q]?) (hk5 : zk5 c = false := by rfl) : zH D cA lo (zup M a c) H1 := by
  refine ⟨by rw [hs]; exact h.1, fun q hq0 => ?_, fun q c' hq => ?_, fun q c' hq0 hq => ?_⟩
  · rw [hs]
    by_cases hqa : q = a
    · subst hqa
      rw [zup_same]
      exact ⟨fun _ => ha.2, fun _ => by simp⟩
    · rw [zup_ne hqa]
      exact h.2.1 q hq0
  · by_cases hqa : q = a
    · subst hqa
      rw [zup_same] at hq
      cases hq
      exact zQt.of he hk5
    · rw [zup_ne hqa] at hq
      exact (h.2.2.1 q c' hq).kept (ho q hqa)
  · rw [zup_ne (by omega)] at hq
    exact h.2.2.2 q c' hq0 hq
theorem zH_new {D : va_G} {cA : Nat → ClassId} {lo : Nat} {M : zM} {H H1 : Heap} {c : zC} (h : zH D cA lo M H) (hs : H1.size = H.size + 1) (he : va_at D vwCl (H.size, zE cA c) H1) (ho : ∀ q : Nat, q < H.size → H1[q]? = H[q]?) (hk5 : zk5 c = false := by rfl) : zH D cA lo (zup M H.size c) H1 := by
  have h0 := h.1
  refine ⟨by rw [hs]; exact Nat.le_succ_of_le h.1, fun q hq0 => ?_, fun q c' hq => ?_, fun q c' hq0 hq => ?_⟩
  · rw [hs]
    by_cases hqa : q = H.size
    · subst hqa
      rw [zup_same]
      exact ⟨fun _ => Nat.lt_succ_self _, fun _ => by simp⟩
    · rw [zup_ne hqa, h.2.1 q hq0]
      omega
  · by_cases hqa : q = H.size
    · subst hqa
      rw [zup_same] at hq
      cases hq
      exact zQt.of he hk5
    · rw [zup_ne hqa] at hq
      refine (h.2.2.1 q c' hq).kept (ho q ?_)
      by_cases hlo : lo ≤ q
      · exact (h.2.1 q hlo).mp (zSome hq)
      · omega
  · rw [zup_ne (by omega)] at hq
    exact h.2.2.2 q c' hq0 hq
/-- what the table of fields says -/
theorem zF_ok {o i ci kf fk : Nat} (h : zF o i = some (ci, kf, fk)) : ∃ q : vw_C, vwCl[ci]? = some q ∧ kf < q.2.2 ∧ (q.2.1 kf).1 = q.1 ∧ (Cond.fieldLinkNest (zCn o) i q.1 (q.2.1 kf).2.1 (q.2.1 kf).2.2.1 "SeamReadings" ∈ zNw ∨ Cond.fieldLink (zCn o) i q.1 (q.2.1 kf).2.1 (q.2.1 kf).2.2.1 ∈ zTW) ∧
    ((fk = 0 ∧ parseFieldDescriptor (q.2.1 kf).2.2.1 = some .int ∧ (q.2.1 kf).2.2.2 = false) ∨ (fk = 1 ∧ (q.2.1 kf).2.2.2 = true ∧ ∃ ty, parseFieldDescriptor (q.2.1 kf).2.2.1 = some ty ∧ ((∃ t, ty = .array t) ∨ ∃ n, ty = .object n))) := by
  simp only [zF, Option.map_eq_some_iff] at h
  obtain ⟨x, hx1, hx2⟩ := h
  have hp := List.find?_some hx1
  simp only [beq_iff_eq] at hp
  have h2 := List.all_eq_true.mp zFc_ok x (List.mem_of_find?_eq_some hx1)
  simp only [zFc, hp, hx2] at h2
  cases hq : vwCl[ci]? with
  | none => rw [hq] at h2; simp at h2
  | some q =>
    rw [hq] at h2
    simp only [Bool.and_eq_true, decide_eq_true_eq] at h2
    obtain ⟨⟨⟨h3, h4⟩, h5⟩, h6⟩ := h2
    refine ⟨q, rfl, h3, h4, ?_, ?_⟩
    · by_cases hn : x.2.2.1 = 1
      · rw [if_pos hn] at h5
        exact Or.inl (zWd_nw h5 rfl)
      · rw [if_neg hn] at h5
        exact Or.inr (zWd_tw h5 rfl)
    · by_cases hf : fk = 0
      · rw [if_pos hf] at h6
        simp only [Bool.and_eq_true, decide_eq_true_eq, Bool.not_eq_true'] at h6
        exact Or.inl ⟨hf, h6.1, h6.2⟩
      · rw [if_neg hf] at h6
        simp only [Bool.and_eq_true, decide_eq_true_eq] at h6
        refine Or.inr ⟨h6.1.1, h6.1.2, ?_⟩
        have h7 := h6.2
        split at h7
        next t ht => exact ⟨_, ht, Or.inl ⟨_, rfl⟩⟩
        next t ht => exact ⟨_, ht, Or.inr ⟨_, rfl⟩⟩
        next => cases h7
section ZM
variable {lo d : Nat} {Rm : Room} {k : zY} {Fn : List Frame → Array Value → State → va_G → (Nat → ClassId) → State → Prop} {u : Nat × Nat} {pc : Nat} {ls : List (Option zV)} {st : List zV} {M : zM}
theorem zr_getfield {i ci kf fk a : Nat} {fs : List zV} {v : zV} (hd : decode (zYb k) pc = .ok (.getfield i, 3)) (hf : zF (zYo k) i = some (ci, kf, fk)) (hM : M a = some (.inl (ci, fs))) (hv : zg fs kf = some v) (K : zRn lo d Rm k Fn u (pc + 3) ls (v :: st) M) : zRn lo d Rm k Fn u pc ls (.inr (.inl (some a)) :: st) M := by
  intro p l e s m args below meth c D cA hc H locs lsA hH hS hL
  obtain ⟨hx, hb, hr, hml, hown, hlk, hnm, hts, hK, -⟩ := id hc
  obtain ⟨q, hq, h1, h2, h3, -⟩ := zF_ok hf
  have hP : va_P D vwCl [(a, zE cA (.inl (ci, fs)))] H := by
    intro j x hj
    match j, hj with
    | 0, hj => cases hj; exact (hH.2.2.1 a _ hM).1 rfl
    | j + 1, hj => simp at hj
  rcases h3 with h3 | h3
  · exact va_getN (D := D) (ci := ci) (v := tv v) hx hb hts (zIn hq) hown hK.1 hP 0 rfl hq kf h1 (va_Nw.use rfl (hK.2.1 _ h3)) (fun x hx9 => by rw [← h2]; exact hx9) (zfs_at hv) hd (K p l e s m args below meth c D cA hc H locs lsA hH hS hL)
  · exact va_get (D := D) (ci := ci) (v := tv v) hx hb hts (zIn hq) hown hK.1 hP 0 rfl hq kf h1 (hts _ h3) (fun x hx9 => by rw [← h2]; exact hx9) (zfs_at hv) hd (K p l e s m args below meth c D cA hc H locs lsA hH hS hL)
theorem zP1 {D : va_G} {cA : Nat → ClassId} {H : Heap} {a : Nat} {c : zC} (hH : zH D cA lo M H) (hM : M a = some c) (hk5 : zk5 c = false := by rfl) : va_P D vwCl [(a, zE cA c)] H := by
  intro j x hj
  match j, hj with
  | 0, hj => cases hj; exact (hH.2.2.1 a _ hM).1 hk5
  | j + 1, hj => simp at hj
theorem zD1 {a : Nat} {e : va_E} (h : lo ≤ a) : va_D (fun q => lo ≤ q) [(a, e)] := by
  refine ⟨fun i j p q hi hj _ => ?_, fun j q hj => ?_⟩
  · match i, j, hi, hj with
    | 0, 0, _, _ => rfl
    | i + 1, _, hi, _ => simp at hi
    | _, j + 1, _, hj => simp at hj
  · match j, hj with
    | 0, hj => cases hj; exact h
    | j + 1, hj => simp at hj
/-- a row of the kit that writes one cell, with its memory -/
theorem zfs_set {fs : List zV} {kf : Nat} {v : zV} : (fs.map tv).set kf (tv v) = (zst fs kf v).map tv := by rw [zst_eq, List.map_set]
theorem zr_putfield {i ci kf a : Nat} {fs : List zV} {v : Int} {w : zV} (hd : decode (zYb k) pc = .ok (.putfield i, 3)) (hf : zF (zYo k) i = some (ci, kf, 0)) (hM : M a = some (.inl (ci, fs))) (hv : zg fs kf = some w) (K : zRn lo d Rm k Fn u (pc + 3) ls st (zup M a (.inl (ci, zst fs kf (.inl v))))) : zRn lo d Rm k Fn u pc ls (.inl v :: .inr (.inl (some a)) :: st) M := by
  intro p l e s m args below meth c D cA hc H locs lsA hH hS hL
  obtain ⟨hx, hb, hr, hml, hown, hlk, hnm, hts, hK, -⟩ := id hc
  obtain ⟨q, hq, h1, h2, h3, h4⟩ := zF_ok hf
  obtain ⟨ty0, hty, hnn⟩ := zTy hq
  rcases h4 with ⟨-, h4, h5⟩ | ⟨h4, -⟩
  · have hP := zP1 hH hM
    have hlo := (zH_in hH hM rfl).1
    have kk : ∀ (H1 : Heap) (locs1 : List Loc), H1.size = H.size → (∀ q : Nat, q ≠ a → H1[q]? = H[q]?) → va_P D vwCl [(a, .inr (ci, (fs.map tv).set kf (tv (.inl v))))] H1 → va_S (fun q => lo ≤ q) s.heap H1 locs1 → W p l e Rm s m args below meth c H1 locs1 u.1 u.2 (Fn below args s D cA) (F0 m (pc + 3) lsA (st.map tv)) := by
      intro H1 locs1 z1 o1 hP1 hS1
      rw [zfs_set] at hP1
      exact K p l e s m args below meth c D cA hc H1 locs1 lsA (zH_set hH (zH_in hH hM rfl) z1 (hP1 0 _ rfl) o1) hS1 hL
    obtain ⟨r', h9, cell, q1, q2, q3, q4⟩ := hP 0 _ rfl
    have hr' : r' = q := Option.some.inj (h9.symm.trans hq)
    subst hr'
    obtain ⟨hSl, hfc, kC, hkC, hkind⟩ := hK.1.1 ci _ hq
    obtain ⟨cf, kf', fi, f, hi, hsl⟩ := hSl kf h1
    have hap := va_apart (own := zCn (zYo k)) hts (zIn hq) ty0 hty hnn hK.1 hq
    have hlay := hts _ (zIn hq _ (u_in_lay h1))
    unfold u_lay at hlay
    rw [if_neg (by rw [h5]; decide)] at hlay
    have hst := (u_facts hfc hkC (u_lays hts (zIn hq) h1) hi).1
    have h6 := u_store (v := tv (.inl v)) hfc hkC hkind hlay hi h4 rfl rfl
    have hkl : kf < (fs.map tv).length := by rw [List.length_map]; exact zg_lt hv
    rcases h3 with h3 | h3
    · refine va_WputK hx hb (f := f) hown (va_Nw.use rfl (hK.2.1 _ h3)) (by rw [← h2]; exact hi) hst (by rw [q2]; exact h6) q1 q3 (by rw [hsl]; exact k2_hasslot (q4 kf h1)) rfl rfl hd fun H' e1 e2 e3 => ?_
      rw [hsl] at e1
      refine kk H' _ e2 e3 ?_ (hS.put e2 e3 hlo)
      intro j x hj
      match j, hj with
      | 0, hj => cases hj; exact ⟨_, hq, t_OB.to (V := updV (vp_V (fs.map tv)) kf (tv (.inl v))) ⟨_, e1, q2, q3, t_set q4 hap h1 (tv (.inl v))⟩ (fun j _ => vp_updV_set hkl (tv (.inl v)) j)⟩
      | j + 1, hj => simp at hj
    · refine W.putK hx hb (f := f) ⟨hown, hts _ h3, ⟨_, _, _, by rw [← h2]; exact hi⟩, hst⟩ (by rw [q2]; exact h6) q1 q3 (by rw [hsl]; exact k2_hasslot (q4 kf h1)) rfl rfl hd fun H' e1 e2 e3 => ?_
      rw [hsl] at e1
      refine kk H' _ e2 e3 ?_ (hS.put e2 e3 hlo)
      intro j x hj
      match j, hj with
      | 0, hj => cases hj; exact ⟨_, hq, t_OB.to (V := updV (vp_V (fs.map tv)) kf (tv (.inl v))) ⟨_, e1, q2, q3, t_set q4 hap h1 (tv (.inl v))⟩ (fun j _ => vp_updV_set hkl (tv (.inl v)) j)⟩
      | j + 1, hj => simp at hj
  · cases h4
theorem zF_own {i ci kf fk : Nat} (h : zF ci i = some (ci, kf, fk)) : ∃ q : vw_C, vwCl[ci]? = some q ∧ Cond.fieldLink (zCn ci) i q.1 (q.2.1 kf).2.1 (q.2.1 kf).2.2.1 ∈ zTW := by
  simp only [zF, Option.map_eq_some_iff] at h
  obtain ⟨x, hx1, hx2⟩ := h
  have hp := List.find?_some hx1
  simp only [beq_iff_eq] at hp
  have h2 := List.all_eq_true.mp zFc_ok x (List.mem_of_find?_eq_some hx1)
  have hall : zFt.all (fun x => decide (x.1.1 = x.2.1.1 → x.2.2.1 = 0)) = true := by decide +kernel
  have h8 := List.all_eq_true.mp hall x (List.mem_of_find?_eq_some hx1)
  simp only [hp, hx2, decide_eq_true_eq] at h8
  have h9 : x.2.2.1 = 0 := by simpa using h8
  simp only [zFc, hp, hx2] at h2
  cases hq : vwCl[ci]? with
  | none => rw [hq] at h2; simp at h2
  | some q =>
    rw [hq] at h2
    simp only [Bool.and_eq_true, decide_eq_true_eq] at h2
    obtain ⟨⟨⟨h3, h4⟩, h5⟩, h6⟩ := h2
    rw [if_neg (by omega)] at h5
    exact ⟨q, rfl, zWd_tw h5 rfl⟩
theorem zr_putfieldR {i ci kf a b : Nat} {fs : List zV} {w : zV} (hd : decode (zYb k) pc = .ok (.putfield i, 3)) (hf : zF (zYo k) i = some (ci, kf, 1)) (hin : zYi k = true) (hsame : zYo k = ci) (hM : M a = some (.inl (ci, fs))) (hv : zg fs kf = some w) (K : zRn lo d Rm k Fn u (pc + 3) ls st (zup M a (.inl (ci, zst fs kf (.inr (.inl (some b))))))) : zRn lo d Rm k Fn u pc ls (.inr (.inl (some b)) :: .inr (.inl (some a)) :: st) M := by
  intro p l e s m args below meth c D cA hc H locs lsA hH hS hL
  obtain ⟨hx, hb, hr, hml, hown, hlk, hnm, hts, hK, -⟩ := id hc
  obtain ⟨q, hq, h1, h2, -, h4⟩ := zF_ok hf
  rw [hsame] at hf
  obtain ⟨q', hq', h3⟩ := zF_own hf
  cases hq.symm.trans hq'
  obtain ⟨ty0, hty, hnn⟩ := zTy hq
  rcases h4 with ⟨h4, -⟩ | ⟨-, h5, ty, h4, h6⟩
  · cases h4
  · have hP := zP1 hH hM
    have hlo := (zH_in hH hM rfl).1
    have hcn : zCn ci = q.1 := by
      match ci, hq with
      | 0, hq => cases hq; rfl
      | 1, hq => cases hq; rfl
      | 2, hq => cases hq; rfl
      | 3, hq => cases hq; rfl
      | 4, hq => cases hq; rfl
      | 5, hq => cases hq; rfl
      | 6, hq => cases hq; rfl
      | n + 7, hq => simp [vwCl] at hq
    rw [hsame] at hown
    have hname : meth.name = "<init>" := by rw [hnm]; simpa [zYi] using hin
    have hfit : narrow ty (tv (.inr (.inl (some b)))) = tv (.inr (.inl (some b))) ∧ fits ty (tv (.inr (.inl (some b)))) = true := by
      rcases h6 with ⟨t, rfl⟩ | ⟨n, rfl⟩ <;> exact ⟨rfl, rfl⟩
    have hap := va_apart (own := zCn ci) hts (zIn hq) ty0 hty hnn hK.1 hq
    obtain ⟨r', h9, cell, q1, q2, q3, q4⟩ := hP 0 _ rfl
    have hr' : r' = q := Option.some.inj (h9.symm.trans hq)
    subst hr'
    obtain ⟨hSl, hfc, kC, hkC, hkind⟩ := hK.1.1 ci _ hq
    obtain ⟨cf, kf', fi, f, hi, hsl⟩ := hSl kf h1
    have hlay := hts _ (zIn hq _ (u_in_lay h1))
    unfold u_lay at hlay
    rw [if_pos h5] at hlay
    have hst := (u_facts hfc hkC (u_lays hts (zIn hq) h1) hi).1
    have hcf : m.cls = cf := by
      obtain ⟨_, _, c', _, _, _, -, -, hf', -, -, -, hown2, -⟩ := Cond.laysFinal_spec hlay
      have e1 : c' = cf := by have := hi.symm.trans hf'; simp at this; exact this.1.symm
      rw [h2, ← hcn] at hown2
      rw [← e1]; exact Option.some.inj (hown.symm.trans hown2)
    have h7 := u_fits hfc hkC hkind (Or.inr hlay) hi h4 hfit.1 hfit.2
    have hkl : kf < (fs.map tv).length := by rw [List.length_map]; exact zg_lt hv
    refine W.putFinK hx hb hown (hts _ h3) (by rw [← h2]; exact hi) hst hcf hname (by rw [q2]; exact h7) q1 q3 (by rw [hsl]; exact k2_hasslot (q4 kf h1)) rfl rfl hd fun H' e1 e2 e3 => ?_
    rw [hsl] at e1
    have hP1 : va_at D vwCl (a, .inr (ci, (fs.map tv).set kf (tv (.inr (.inl (some b)))))) H' := ⟨_, hq, t_OB.to (V := updV (vp_V (fs.map tv)) kf (tv (.inr (.inl (some b))))) ⟨_, e1, q2, q3, t_set q4 hap h1 (tv (.inr (.inl (some b))))⟩ (fun j _ => vp_updV_set hkl (tv (.inr (.inl (some b)))) j)⟩
    rw [zfs_set] at hP1
    exact K p l e s m args below meth c D cA hc H' _ lsA (zH_set hH (zH_in hH hM rfl) e2 hP1 e3) (hS.put e2 e3 hlo) hL
-- arrays
theorem zt_i {D : va_G} {cA : Nat → ClassId} {s : State} (hK : zK D cA s) : ArrOfT s (cA 0) .int := (hK.1.2 0 _ rfl).1
theorem zr_alen {a t n : Nat} {f : (Nat → Int) ⊕ (Nat → Option Nat)} (hd : decode (zYb k) pc = .ok (.arraylength, 1)) (hM : M a = some (.inr (t, n, f))) (ht : t < 4) (K : zRn lo d Rm k Fn u (pc + 1) ls (.inl (n : Int) :: st) M) : zRn lo d Rm k Fn u pc ls (.inr (.inl (some a)) :: st) M := by
  intro p l e s m args below meth c D cA hc H locs lsA hH hS hL
  obtain ⟨hx, hb, hr, hml, hown, hlk, hnm, hts, hK, -⟩ := id hc
  have hP := zP1 hH hM (by
    cases f with
    | inl f =>
      show (t == 5) = false
      rw [beq_eq_false_iff_ne]
      omega
    | inr f => rfl)
  have hk := K p l e s m args below meth c D cA hc H locs lsA hH hS hL
  have hv : Int32.ofNat n = Int32.ofInt (n : Int) := (Int32.ofInt_eq_ofNat (n := n)).symm
  have hty : ∃ ty, (zT cA)[t]? = some (cA t, ty) := by
    match t, ht with
    | 0, _ => exact ⟨_, rfl⟩
    | 1, _ => exact ⟨_, rfl⟩
    | 2, _ => exact ⟨_, rfl⟩
    | 3, _ => exact ⟨_, rfl⟩
  obtain ⟨ty, hty⟩ := hty
  have e4 : ∀ f : Nat → Int, zE cA (.inr (t, n, .inl f)) = .inl (cA t, n, .inl (fun j => Int32.ofInt (f j))) := by
    intro f
    match t, ht with
    | 0, _ => rfl
    | 1, _ => rfl
    | 2, _ => rfl
    | 3, _ => rfl
  cases f with
  | inl f =>
    rw [e4] at hP
    exact va_alen (x := (n, .inl (fun j => Int32.ofInt (f j)))) hx hb hK.1 hP 0 t rfl hty hv hd hk
  | inr f => exact va_alen (x := (n, .inr (.inr (.inr (.inr f))))) hx hb hK.1 hP 0 t rfl hty hv hd hk
theorem zr_iald {a n : Nat} {i : Int} {f : Nat → Int} (hd : decode (zYb k) pc = .ok (.iaload, 1)) (hM : M a = some (.inr (0, n, .inl f))) (h0 : 0 ≤ i) (h1 : i < (n : Int)) (h2 : n < 2147483648) (K : zRn lo d Rm k Fn u (pc + 1) ls (.inl (f i.toNat) :: st) M) : zRn lo d Rm k Fn u pc ls (.inl i :: .inr (.inl (some a)) :: st) M := by
  intro p l e s m args below meth c D cA hc H locs lsA hH hS hL
  obtain ⟨hx, hb, hr, hml, hown, hlk, hnm, hts, hK, -⟩ := id hc
  have hk := K p l e s m args below meth c D cA hc H locs lsA hH hS hL
  refine va_iald hx hb hK.1 (zP1 hH hM) 0 0 rfl rfl (zIdx h0 h1 h2) hd ?_
  rw [zClamp h0 (by omega)]
  exact hk
theorem zr_bald {a n : Nat} {i : Int} {f : Nat → Int} (hd : decode (zYb k) pc = .ok (.baload, 1)) (hM : M a = some (.inr (1, n, .inl f))) (h0 : 0 ≤ i) (h1 : i < (n : Int)) (h2 : n < 2147483648) (K : zRn lo d Rm k Fn u (pc + 1) ls (.inl (f i.toNat) :: st) M) : zRn lo d Rm k Fn u pc ls (.inl i :: .inr (.inl (some a)) :: st) M := by
  intro p l e s m args below meth c D cA hc H locs lsA hH hS hL
  obtain ⟨hx, hb, hr, hml, hown, hlk, hnm, hts, hK, -⟩ := id hc
  have hk := K p l e s m args below meth c D cA hc H locs lsA hH hS hL
  refine va_zald hx hb hK.1 (zP1 hH hM) 0 1 rfl rfl (zIdx h0 h1 h2) hd ?_
  rw [zClamp h0 (by omega)]
  exact hk
theorem zr_aald {a t n : Nat} {i : Int} {f : Nat → Option Nat} (hd : decode (zYb k) pc = .ok (.aaload, 1)) (hM : M a = some (.inr (t, n, .inr f))) (ht : t = 2 ∨ t = 3) (h0 : 0 ≤ i) (h1 : i < (n : Int)) (h2 : n < 2147483648) (K : zRn lo d Rm k Fn u (pc + 1) ls (.inr (.inl (f i.toNat)) :: st) M) : zRn lo d Rm k Fn u pc ls (.inl i :: .inr (.inl (some a)) :: st) M := by
  intro p l e s m args below meth c D cA hc H locs lsA hH hS hL
  obtain ⟨hx, hb, hr, hml, hown, hlk, hnm, hts, hK, -⟩ := id hc
  have hk := K p l e s m args below meth c D cA hc H locs lsA hH hS hL
  rcases ht with rfl | rfl
  · refine va_aldq hx hb hK.1 (zP1 hH hM) 0 2 rfl rfl (zIdx h0 h1 h2) hd ?_
    rw [zClamp h0 (by omega)]
    exact hk
  · refine va_aldq hx hb hK.1 (zP1 hH hM) 0 3 rfl rfl (zIdx h0 h1 h2) hd ?_
    rw [zClamp h0 (by omega)]
    exact hk
theorem zr_iast {a n : Nat} {i x : Int} {f : Nat → Int} (hd : decode (zYb k) pc = .ok (.iastore, 1)) (hM : M a = some (.inr (0, n, .inl f))) (h0 : 0 ≤ i) (h1 : i < (n : Int)) (h2 : n < 2147483648) (K : zRn lo d Rm k Fn u (pc + 1) ls st (zup M a (.inr (0, n, .inl (zu f i.toNat x))))) : zRn lo d Rm k Fn u pc ls (.inl x :: .inl i :: .inr (.inl (some a)) :: st) M := by
  intro p l e s m args below meth c D cA hc H locs lsA hH hS hL
  obtain ⟨hx, hb, hr, hml, hown, hlk, hnm, hts, hK, -⟩ := id hc
  have hP : H[a]? = some (arrV (cA 0) n (fun j => .int (Int32.ofInt (f j)))) := (hH.2.2.1 a _ hM).1 rfl
  refine W.iast hx hb hP (zt_i hK n (fun j => .int (Int32.ofInt (f j)))) (fun q => by cases q) (by show ¬ (_ ∨ (arrV _ _ _).slots.size ≤ _); rw [arrV_size]; exact zIdx h0 h1 h2) rfl rfl hd fun H1 e9 z9 oq => ?_
  refine K p l e s m args below meth c D cA hc H1 _ lsA (zH_set hH (zH_in hH hM rfl) z9 ?_ oq) (hS.put z9 oq ((zH_in hH hM rfl).1)) hL
  show H1[a]? = some (vp_cell _ _)
  rw [e9, vp_cell_i, arrV_store, zClamp h0 (by omega)]
  congr 2
  funext q
  by_cases hq : q = i.toNat
  · subst hq
    simp [updV, zu]
  · simp [updV, zu, hq]
theorem zr_bast {a n : Nat} {i x : Int} {f : Nat → Int} (hd : decode (zYb k) pc = .ok (.bastore, 1)) (hM : M a = some (.inr (1, n, .inl f))) (h0 : 0 ≤ i) (h1 : i < (n : Int)) (h2 : n < 2147483648) (hx1 : x = 1) (K : zRn lo d Rm k Fn u (pc + 1) ls st (zup M a (.inr (1, n, .inl (zu f i.toNat x))))) : zRn lo d Rm k Fn u pc ls (.inl x :: .inl i :: .inr (.inl (some a)) :: st) M := by
  intro p l e s m args below meth c D cA hc H locs lsA hH hS hL
  subst hx1
  obtain ⟨hx, hb, hr, hml, hown, hlk, hnm, hts, hK, -⟩ := id hc
  have hP : H[a]? = some (arrV (cA 1) n (fun j => .int (Int32.ofInt (f j)))) := (hH.2.2.1 a _ hM).1 rfl
  refine W.zast hx hb hP ((hK.1.2 1 _ rfl).1 n (fun j => .int (Int32.ofInt (f j)))) (fun q => by cases q) (by show ¬ (_ ∨ (arrV _ _ _).slots.size ≤ _); rw [arrV_size]; exact zIdx h0 h1 h2) rfl rfl hd fun H1 e9 z9 oq => ?_
  refine K p l e s m args below meth c D cA hc H1 _ lsA (zH_set hH (zH_in hH hM rfl) z9 ?_ oq) (hS.put z9 oq ((zH_in hH hM rfl).1)) hL
  show H1[a]? = some (vp_cell _ _)
  rw [e9, vp_cell_i, arrV_store, zClamp h0 (by omega)]
  congr 2
  funext q
  by_cases hq : q = i.toNat
  · subst hq
    simp [updV, zu]
    rfl
  · simp [updV, zu, hq]
theorem zr_aast {a b t n : Nat} {i : Int} {f : Nat → Option Nat} {fs : List zV} (hd : decode (zYb k) pc = .ok (.aastore, 1)) (hM : M a = some (.inr (t, n, .inr f))) (ht : t = 2 ∨ t = 3) (hb' : M b = some (.inl (t + 2, fs))) (h0 : 0 ≤ i) (h1 : i < (n : Int)) (h2 : n < 2147483648) (K : zRn lo d Rm k Fn u (pc + 1) ls st (zup M a (.inr (t, n, .inr (zu f i.toNat (some b)))))) : zRn lo d Rm k Fn u pc ls (.inr (.inl (some b)) :: .inl i :: .inr (.inl (some a)) :: st) M := by
  intro p l e s m args below meth c D cA hc H locs lsA hH hS hL
  obtain ⟨hx, hb, hr, hml, hown, hlk, hnm, hts, hK, -⟩ := id hc
  have hP : H[a]? = some (arrV (cA t) n (fun j => va_rf (f j))) := (hH.2.2.1 a _ hM).1 rfl
  have hin := zIdx h0 h1 h2
  have hlt : (Int32.ofInt i).toNatClampNeg < n := Nat.not_le.mp fun q => hin (Or.inr q)
  have hn0 : ¬ Int32.ofInt i < 0 := fun q => hin (Or.inl q)
  obtain ⟨q, hq, cellV, g1, g2, g3, -⟩ := (hH.2.2.1 b _ hb').1 rfl
  have hcls := (hK.1.1 (t + 2) q hq).2
  have hty : (zT cA)[t]? = some (cA t, .object q.1) := by
    rcases ht with rfl | rfl
    · cases hq; rfl
    · cases hq; rfl
  obtain ⟨kA, comp, k1, k2, k3, -⟩ := (hK.1.2 t _ hty).2
  have hcomp : comp = D.1 (t + 2) := Option.some.inj (k3.symm.trans hcls.1)
  subst hcomp
  obtain ⟨kC, hkC, -⟩ := hcls.2
  refine W.aast hx hb hP (fun q h => by cases h) (fun h => by cases h) k1 k2 rfl hkC ⟨hn0, by show _ < (arrV _ _ _).slots.size; rw [arrV_size]; exact hlt⟩ g1 (fun q h => by rw [g3] at h; cases h) (by rw [g2]; exact hkC) (by rw [g2]; exact va_assign hcls) rfl rfl hd fun H1 e9 z9 oq => ?_
  refine K p l e s m args below meth c D cA hc H1 _ lsA (zH_set hH (zH_in hH hM rfl) z9 ?_ oq) (hS.put z9 oq ((zH_in hH hM rfl).1)) hL
  show H1[a]? = some (vp_cell _ _)
  rw [e9, vp_cell_q, arrV_store, zClamp h0 (by omega)]
  congr 2
  funext q
  by_cases hq : q = i.toNat
  · subst hq
    simp [updV, zu, va_rf]
  · simp [updV, zu, hq]
-- longs; the script
theorem zr_lald {a n : Nat} {i : Int} {f : Nat → Int} (hd : decode (zYb k) pc = .ok (.laload, 1)) (hM : M a = some (.inr (4, n, .inl f))) (h0 : 0 ≤ i) (h1 : i < (n : Int)) (h2 : n < 2147483648) (K : zRn lo d Rm k Fn u (pc + 1) ls (.inr (.inr (Int64.ofInt (f i.toNat))) :: st) M) : zRn lo d Rm k Fn u pc ls (.inl i :: .inr (.inl (some a)) :: st) M := by
  intro p l e s m args below meth c D cA hc H locs lsA hH hS hL
  obtain ⟨hx, hb, hr, hml, hown, hlk, hnm, hts, hK, -⟩ := id hc
  have hk := K p l e s m args below meth c D cA hc H locs lsA hH hS hL
  refine va_lald hx hb hK.1 (zP1 hH hM) 0 4 rfl rfl (zIdx h0 h1 h2) hd ?_
  rw [zClamp h0 (by omega)]
  exact hk
theorem zl_ofInt (x : Int64) : Int64.ofInt x.toInt = x := Int64.ofInt_toInt x
theorem zr_last {a n : Nat} {i : Int} {x : Int64} {f : Nat → Int} (hd : decode (zYb k) pc = .ok (.lastore, 1)) (hM : M a = some (.inr (4, n, .inl f))) (h0 : 0 ≤ i) (h1 : i < (n : Int)) (h2 : n < 2147483648) (K : zRn lo d Rm k Fn u (pc + 1) ls st (zup M a (.inr (4, n, .inl (zu f i.toNat x.toInt))))) : zRn lo d Rm k Fn u pc ls (.inr (.inr x) :: .inl i :: .inr (.inl (some a)) :: st) M := by
  intro p l e s m args below meth c D cA hc H locs lsA hH hS hL
  obtain ⟨hx, hb, hr, hml, hown, hlk, hnm, hts, hK, -⟩ := id hc
  have hP : H[a]? = some (arrV (cA 4) n (fun j => .long (Int64.ofInt (f j)))) := (hH.2.2.1 a _ hM).1 rfl
  refine W.last hx hb hP ((hK.1.2 4 _ rfl).1 n (fun j => .long (Int64.ofInt (f j)))) (fun q => by cases q) (by show ¬ (_ ∨ (arrV _ _ _).slots.size ≤ _); rw [arrV_size]; exact zIdx h0 h1 h2) rfl rfl hd fun H1 e9 z9 oq => ?_
  refine K p l e s m args below meth c D cA hc H1 _ lsA (zH_set hH (zH_in hH hM rfl) z9 ?_ oq) (hS.put z9 oq (zH_in hH hM rfl).1) hL
  show H1[a]? = some (vp_cell _ _)
  rw [e9, vp_cell_l, arrV_store, zClamp h0 (by omega)]
  congr 2
  funext q
  by_cases hq : q = i.toNat
  · subst hq
    simp [updV, zu]
  · simp [updV, zu, hq]
theorem zr_iald5 {a n : Nat} {i : Int} {f : Nat → Int} (hd : decode (zYb k) pc = .ok (.iaload, 1)) (hM : M a = some (.inr (5, n, .inl f))) (h0 : 0 ≤ i) (h1 : i < (n : Int)) (h2 : n < 2147483648) (K : zRn lo d Rm k Fn u (pc + 1) ls (.inl (f i.toNat) :: st) M) : zRn lo d Rm k Fn u pc ls (.inl i :: .inr (.inl (some a)) :: st) M := by
  intro p l e s m args below meth c D cA hc H locs lsA hH hS hL
  obtain ⟨hx, hb, hr, hml, hown, hlk, hnm, hts, hK, -⟩ := id hc
  have hk := K p l e s m args below meth c D cA hc H locs lsA hH hS hL
  obtain ⟨cell, g1, g2, g3, g4, g5, g6⟩ := (hH.2.2.1 a _ hM).2 n f rfl
  refine W.iald hx hb (cell := cell) (v := .int (Int32.ofInt (f i.toNat))) g1 (hK.2.2.2.2 cell g2 g3) g4 (by rw [g5]; exact zIdx h0 h1 h2) (by rw [zClamp h0 (by omega)]; exact g6 _ (by omega)) rfl rfl hd ?_
  exact hk
theorem zr_alen5 {a n : Nat} {f : Nat → Int} (hd : decode (zYb k) pc = .ok (.arraylength, 1)) (hM : M a = some (.inr (5, n, .inl f))) (K : zRn lo d Rm k Fn u (pc + 1) ls (.inl (n : Int) :: st) M) : zRn lo d Rm k Fn u pc ls (.inr (.inl (some a)) :: st) M := by
  intro p l e s m args below meth c D cA hc H locs lsA hH hS hL
  obtain ⟨hx, hb, hr, hml, hown, hlk, hnm, hts, hK, -⟩ := id hc
  have hk := K p l e s m args below meth c D cA hc H locs lsA hH hS hL
  obtain ⟨cell, g1, g2, g3, g4, g5, g6⟩ := (hH.2.2.1 a _ hM).2 n f rfl
  have hv : cell.slots.size.toInt32 = Int32.ofInt (n : Int) := by
    rw [g5]
    exact (Int32.ofInt_eq_ofNat (n := n)).symm
  refine W.alen hx hb (cell := cell) g1 (hK.2.2.2.2 cell g2 g3) hv rfl rfl hd ?_
  exact hk
end ZM
