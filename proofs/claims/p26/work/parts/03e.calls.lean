-- new cells, calls, returns
theorem zNc_of {o i ci : Nat} (h : zNc o i = some ci) : ∃ q : vw_C, vwCl[ci]? = some q ∧ Cond.classLink (zCn o) i q.1 ∈ zTW ∧ Cond.instantiable q.1 q.2.2 ∈ zTW ∧ Cond.initialized q.1 ∈ zTW ∧ zNf ci = q.2.2 := by
  simp only [zNc, Option.map_eq_some_iff] at h
  obtain ⟨x, hx1, hx2⟩ := h
  have hp := List.find?_some hx1
  simp only [beq_iff_eq] at hp
  have h2 := List.all_eq_true.mp zNc_ok x (List.mem_of_find?_eq_some hx1)
  simp only [zNcc, hp, hx2] at h2
  cases hq : vwCl[ci]? with
  | none => rw [hq] at h2; simp at h2
  | some q =>
    rw [hq] at h2
    simp only [Bool.and_eq_true, decide_eq_true_eq] at h2
    exact ⟨q, rfl, zWd_tw h2.1.1.1 rfl, zWd_tw h2.1.1.2 rfl, zWd_tw h2.1.2 rfl, h2.2⟩
/-- what the table of calls says -/
theorem zCl_ok {o i kd n mc ms : Nat} {y : zY} (h : zCl o i = some (kd, y, n, mc, ms)) : ∃ ne : Nat, (if ne = 1 then Cond.methodLinkNest (zCn o) i (zYn y) "SeamReadings" ∈ zNw else Cond.methodLink (zCn o) i (zYn y) ∈ zTW) ∧
    (if kd = 1 then Cond.static (zYn y) ∈ zTW else Cond.instanceMethod (zYn y) ∈ zTW) ∧ (kd = 0 → Cond.selects (zYn y).cls (zYn y) (zYn y) ∈ zTW) ∧ (kd = 2 → (zYn y).name = "<init>" ∧ zYr y = none) ∧
    Cond.initialized (zYn y).cls ∈ zTW ∧ Cond.code (zYn y) (zYb y) (zYl y) (zYr y) ∈ zTW ∧ ((zYn y).cls ≠ "java/lang/invoke/MethodHandle" ∧ (zYn y).cls ≠ "java/lang/invoke/VarHandle") ∧
    (parseMethodDescriptor (zYn y).desc).map (fun d => d.parameters.length) = some n ∧ zYl y ≤ 30 ∧ (zYn y).cls = zCn (zYo y) ∧ (kd ≠ 1 → (vwCl[zYo y]?).map (fun q => q.1) = some (zYn y).cls) ∧ (ne = 1 ∨ kd ≠ 1 ∨ (zYn y).cls = zCn o) := by
  simp only [zCl, Option.map_eq_some_iff] at h
  obtain ⟨x, hx1, hx2⟩ := h
  have hp := List.find?_some hx1
  simp only [beq_iff_eq] at hp
  have h2 := List.all_eq_true.mp zCc_ok x (List.mem_of_find?_eq_some hx1)
  simp only [Prod.mk.injEq] at hx2
  obtain ⟨e1, e2, e3, e4, e5⟩ := hx2
  simp only [zCc, hp, e1, e2, e3, Bool.and_eq_true, decide_eq_true_eq] at h2
  obtain ⟨⟨⟨⟨⟨⟨⟨⟨⟨⟨⟨h3, h4⟩, h5⟩, h6⟩, h7⟩, h8⟩, h9⟩, h10⟩, h11⟩, h12⟩, h13⟩, h14⟩ := h2
  refine ⟨x.2.2.1, ?_, ?_, fun hk => ?_, fun hk => ?_, zWd_tw h7 rfl, List.mem_filter.mpr ⟨?_, rfl⟩, ⟨h8, h9⟩, h10, h11, h12, fun hk => (by rw [if_neg hk] at h13; simpa using h13), ?_⟩
  · by_cases hn : x.2.2.1 = 1
    · rw [if_pos hn] at h3 ⊢
      exact zWd_nw h3 rfl
    · rw [if_neg hn] at h3 ⊢
      exact zWd_tw h3 rfl
  · by_cases hn : kd = 1
    · rw [if_pos hn] at h4 ⊢
      exact zWd_tw h4 rfl
    · rw [if_neg hn] at h4 ⊢
      exact zWd_tw h4 rfl
  · rw [if_pos hk] at h5
    exact zWd_tw h5 rfl
  · rw [if_pos hk] at h6
    simpa using h6
  · rw [← e2]
    unfold zKey
    rw [List.getD_eq_getElem?_getD]
    cases hq : zKs[x.2.2.2.1]? with
    | none => exact zKs_ok _ (List.mem_of_getElem? (i := 0) rfl)
    | some q => exact zKs_ok _ (List.mem_of_getElem? hq)
  · by_cases hn : x.2.2.1 = 1
    · exact Or.inl hn
    · rw [if_neg hn] at h14
      by_cases hk : kd = 1
      · rw [if_pos hk] at h14
        exact Or.inr (Or.inr (by simpa using h14))
      · exact Or.inr (Or.inl hk)
theorem zTW_good {w : Cond} (h : w ∈ zTW) : goodWord w = true := (List.mem_filter.mp h).2
theorem zGood {y : zY} (hc : Cond.code (zYn y) (zYb y) (zYl y) (zYr y) ∈ zTW) : GoodIn zTW (zW y) := by
  intro w hw
  rcases List.mem_cons.mp hw with rfl | hw
  · exact ⟨hc, good_of_word (zTW_good hc)⟩
  · exact ⟨hw, good_of_word (zTW_good hw)⟩
theorem zGoodL {ws : List Cond} {y : zY} (hc : Cond.code (zYn y) (zYb y) (zYl y) (zYr y) ∈ zTW) (h : ∀ w ∈ ws, w ∈ zTW) : GoodIn zTW (ws ++ zW y) := by
  intro w hw
  rcases List.mem_append.mp hw with hw | hw
  · exact ⟨h w hw, good_of_word (zTW_good (h w hw))⟩
  · exact zGood hc w hw
section ZCALL
variable {p : Program} {l : Launch} {e : Env} {R : Room} {s : State} {m : MethodId} {args : Array Value} {below : List Frame} {meth : Method} {c : Code} {H : Heap} {locs : List Loc} {cells slots : Nat} {Qf : State → Prop}
theorem zcall {pc lo mc ms : Nat} {lsA : Array Slot} {st0 rest : List Value} {a : Array Value} {D : va_G} {cA : Nat → ClassId} {Q : Option zV → zM → Prop} (hr : va_Run p l e R s m args below meth c H locs cells slots mc ms (F0 m pc lsA st0) rest (zPost D cA lo Q a) (fun q => lo ≤ q)) (hS : va_S (fun q => lo ≤ q) s.heap H locs)
    (kk : ∀ (r : Option zV) (M' : zM) (H1 : Heap) (locs1 : List Loc), Q r M' → zH D cA lo M' H1 → va_S (fun q => lo ≤ q) s.heap H1 locs1 → W p l e R s m args below meth c H1 locs1 (cells + mc) (slots + ms) Qf (F0 m (pc + 3) lsA ((r.map tv).toList ++ rest))) : W p l e R s m args below meth c H locs cells slots Qf (F0 m pc lsA st0) := by
  intro T hT X
  obtain ⟨v, st₀, t, T', L, h0, X', hL, e1, e2, ⟨⟨r, M', hv, hq, hh⟩, hz, hk⟩, st⟩ := hr T hT X
  cases hv
  rw [h0] at hz hk
  obtain ⟨t2, a1, b1⟩ := kk r M' T'.heap (locs ++ L) hq (by rw [e1]; exact hh)
    ⟨Nat.le_trans hS.1 (by rw [e1]; exact hz), fun q h1 h2 => by rw [e1, hk q (Nat.lt_of_lt_of_le h1 hS.1) h2]; exact hS.2.1 q h1 h2, fun q hq => by
      rcases List.mem_append.mp hq with h | h
      · exact hS.2.2 q h
      · exact hL q h⟩ T' rfl X'
  exact ⟨t2, st t2 a1, b1⟩
end ZCALL
/-- the answer, put on the stack -/
def zpu (r : Option zV) (st : List zV) : List zV := match r with
  | none => st
  | some v => v :: st
theorem zpu_map {r : Option zV} {st : List zV} : (r.map tv).toList ++ st.map tv = (zpu r st).map tv := by cases r <;> rfl
def zcs : List zV → Nat
  | [] => 0
  | .inl _ :: r => 1 + zcs r
  | .inr (.inl _) :: r => 1 + zcs r
  | .inr (.inr _) :: r => 2 + zcs r
theorem zcs_sum : ∀ (st : List zV), ((st.map tv).map fun v => v.category).sum = zcs st
  | [] => rfl
  | .inl z :: r => by
    show 1 + ((r.map tv).map fun v => v.category).sum = 1 + zcs r
    rw [zcs_sum r]
  | .inr (.inl none) :: r => by
    show 1 + ((r.map tv).map fun v => v.category).sum = 1 + zcs r
    rw [zcs_sum r]
  | .inr (.inl (some _)) :: r => by
    show 1 + ((r.map tv).map fun v => v.category).sum = 1 + zcs r
    rw [zcs_sum r]
  | .inr (.inr _) :: r => by
    show 2 + ((r.map tv).map fun v => v.category).sum = 2 + zcs r
    rw [zcs_sum r]
section ZN
variable {lo d : Nat} {Rm : Room} {k : zY} {Fn : List Frame → Array Value → State → va_G → (Nat → ClassId) → State → Prop} {u : Nat × Nat} {pc : Nat} {ls : List (Option zV)} {st : List zV} {M : zM}
theorem zDf_ok {ci : Nat} {q : vw_C} (hq : vwCl[ci]? = some q) : ∃ ty : Nat → FieldType, (∀ j, j < q.2.2 → parseFieldDescriptor (q.2.1 j).2.2.1 = some (ty j)) ∧ ∀ j, j < q.2.2 → defaultValue (ty j) = vp_V ((zDf ci).map tv) j := by
  match ci, hq with
  | 0, h => cases h; exact ⟨tyX0, tyX0_ok, by decide +kernel⟩
  | 1, h => cases h; exact ⟨tyX1, tyX1_ok, by decide +kernel⟩
  | 2, h => cases h; exact ⟨tyX2, tyX2_ok, by decide +kernel⟩
  | 3, h => cases h; exact ⟨tyX3, tyX3_ok, by decide +kernel⟩
  | 4, h => cases h; exact ⟨tyX4, tyX4_ok, by decide +kernel⟩
  | 5, h => cases h; exact ⟨tyX5, tyX5_ok, by decide +kernel⟩
  | 6, h => cases h; exact ⟨tyX6, tyX6_ok, by decide +kernel⟩
  | n + 7, h => simp [vwCl] at h
theorem zr_new {i ci : Nat} (hd : decode (zYb k) pc = .ok (.new i, 3)) (hn : zNc (zYo k) i = some ci) (h1 : u.1 + 1 ≤ Rm.cells) (h2 : u.2 + zNf ci ≤ Rm.slots)
    (K : ∀ nx : Nat, lo ≤ nx → (∀ q, lo ≤ q → (M q ≠ none ↔ q < nx)) → zRn lo d Rm k Fn (u.1 + 1, u.2 + zNf ci) (pc + 3) ls (.inr (.inl (some nx)) :: st) (zup M nx (.inl (ci, zDf ci)))) : zRn lo d Rm k Fn u pc ls st M := by
  intro p l e s m args below meth c D cA hc H locs lsA hH hS hL
  obtain ⟨hx, hb, hr, hml, hown, hlk, hnm, hts, hK, -⟩ := id hc
  obtain ⟨q, hq, g1, g2, g3, g4⟩ := zNc_of hn
  have hKn := hK.1.1 ci _ hq
  obtain ⟨ty, hty, hfs⟩ := zDf_ok hq
  refine W.newcK hx hb hown (hts _ g1) (hts _ g2) (hts _ g3) rfl hd h1 (by rw [← g4]; exact h2) hKn.2.1 rfl fun H1 kC hkC e1 z1 o1 => ?_
  have he : va_at D vwCl (H.size, zE cA (.inl (ci, zDf ci))) H1 := ⟨_, hq, (u_born ty hts (zIn hq) hKn hkC e1 hty).to hfs⟩
  have hk := K H.size hH.1 hH.2.1 p l e s m args below meth c D cA hc H1 locs lsA (zH_new hH z1 he o1) ⟨Nat.le_trans hS.1 (by omega), fun x h3 h4 => (o1 x (Nat.lt_of_lt_of_le h3 hS.1)).trans (hS.2.1 x h3 h4), hS.2.2⟩ hL
  rw [← g4]
  exact hk
theorem zr_newa {at_ : ArrayType} {t : Nat} {n : Int} (hd : decode (zYb k) pc = .ok (.newarray at_, 2)) (ht : (at_ = .int ∧ t = 0) ∨ (at_ = .boolean ∧ t = 1) ∨ (at_ = .long ∧ t = 4)) (hn : 0 ≤ n) (hn2 : n ≤ 100000) (h1 : u.1 + 1 ≤ Rm.cells) (h2 : u.2 + n.toNat ≤ Rm.slots)
    (K : ∀ nx : Nat, lo ≤ nx → (∀ q, lo ≤ q → (M q ≠ none ↔ q < nx)) → zRn lo d Rm k Fn (u.1 + 1, u.2 + n.toNat) (pc + 2) ls (.inr (.inl (some nx)) :: st) (zup M nx (.inr (t, n.toNat, .inl (fun _ => 0))))) : zRn lo d Rm k Fn u pc ls (.inl n :: st) M := by
  intro p l e s m args below meth c D cA hc H locs lsA hH hS hL
  obtain ⟨hx, hb, hr, hml, hown, hlk, hnm, hts, hK, -⟩ := id hc
  have hz : ¬ Int32.ofInt n < 0 := zNotNeg hn (by omega)
  have hcl : (Int32.ofInt n).toNatClampNeg = n.toNat := zClamp hn (by omega)
  have har := zArr_ok
  simp only [Bool.and_eq_true] at har
  rcases ht with ⟨rfl, rfl⟩ | ⟨rfl, rfl⟩ | ⟨rfl, rfl⟩
  · refine va_newaK hx hb (atype := .int) (hts _ (zWd_tw har.1.1.1.1 rfl)) rfl hd rfl hz hcl (by show n.toNat * 4 ≤ _; omega) h1 h2 rfl fun H1 cI e1 z1 o1 hAr hNm => ?_
    have hcI : cI = cA 0 := Option.some.inj (hNm.symm.trans (hK.1.2 0 _ rfl).2)
    subst hcI
    refine K H.size hH.1 hH.2.1 p l e s m args below meth c D cA hc H1 locs lsA (zH_new hH z1 ?_ o1) ⟨Nat.le_trans hS.1 (by omega), fun x h3 h4 => (o1 x (Nat.lt_of_lt_of_le h3 hS.1)).trans (hS.2.1 x h3 h4), hS.2.2⟩ hL
    exact e1
  · refine va_newaK hx hb (atype := .boolean) (hts _ (zWd_tw har.1.1.1.2 rfl)) rfl hd rfl hz hcl (by show n.toNat * 1 ≤ _; omega) h1 h2 rfl fun H1 cI e1 z1 o1 hAr hNm => ?_
    have hcI : cI = cA 1 := Option.some.inj (hNm.symm.trans (hK.1.2 1 _ rfl).2)
    subst hcI
    refine K H.size hH.1 hH.2.1 p l e s m args below meth c D cA hc H1 locs lsA (zH_new hH z1 ?_ o1) ⟨Nat.le_trans hS.1 (by omega), fun x h3 h4 => (o1 x (Nat.lt_of_lt_of_le h3 hS.1)).trans (hS.2.1 x h3 h4), hS.2.2⟩ hL
    exact e1
  · refine va_newaK hx hb (atype := .long) (hts _ (zWd_tw har.2 rfl)) rfl hd rfl hz hcl (by show n.toNat * 8 ≤ _; omega) h1 h2 rfl fun H1 cI e1 z1 o1 hAr hNm => ?_
    have hcI : cI = cA 4 := Option.some.inj (hNm.symm.trans (hK.1.2 4 _ rfl).2)
    subst hcI
    refine K H.size hH.1 hH.2.1 p l e s m args below meth c D cA hc H1 locs lsA (zH_new hH z1 ?_ o1) ⟨Nat.le_trans hS.1 (by omega), fun x h3 h4 => (o1 x (Nat.lt_of_lt_of_le h3 hS.1)).trans (hS.2.1 x h3 h4), hS.2.2⟩ hL
    exact e1
theorem zr_anew {i t : Nat} {n : Int} (hd : decode (zYb k) pc = .ok (.anewarray i, 3)) (hn' : zNc (zYo k) i = some (t + 2)) (ht : t = 2 ∨ t = 3) (hn : 0 ≤ n) (hn2 : n ≤ 100000) (h1 : u.1 + 1 ≤ Rm.cells) (h2 : u.2 + n.toNat ≤ Rm.slots)
    (K : ∀ nx : Nat, lo ≤ nx → (∀ q, lo ≤ q → (M q ≠ none ↔ q < nx)) → zRn lo d Rm k Fn (u.1 + 1, u.2 + n.toNat) (pc + 3) ls (.inr (.inl (some nx)) :: st) (zup M nx (.inr (t, n.toNat, .inr (fun _ => none))))) : zRn lo d Rm k Fn u pc ls (.inl n :: st) M := by
  intro p l e s m args below meth c D cA hc H locs lsA hH hS hL
  obtain ⟨hx, hb, hr, hml, hown, hlk, hnm, hts, hK, -⟩ := id hc
  have hz : ¬ Int32.ofInt n < 0 := zNotNeg hn (by omega)
  have hcl : (Int32.ofInt n).toNatClampNeg = n.toNat := zClamp hn (by omega)
  obtain ⟨q, hq, g1, -⟩ := zNc_of hn'
  have hov : va_AO q.1 s := by
    rcases ht with rfl | rfl
    · cases hq; exact hK.2.2.1
    · cases hq; exact hK.2.2.2.1
  have hty : (zT cA)[t]? = some (cA t, .object q.1) := by
    rcases ht with rfl | rfl
    · cases hq; rfl
    · cases hq; rfl
  refine W.anew hx hb hown (hts _ g1) (va_AO.use hov) rfl hd rfl hz (by rw [hcl]; omega) h1 (by rw [hcl]; exact h2) fun cI kA comp f1 f2 f3 f4 => ?_
  obtain ⟨kA', comp', -, -, -, f5⟩ := (hK.1.2 t _ hty).2
  have hcI : cI = cA t := Option.some.inj (f1.symm.trans f5)
  subst hcI
  rw [hcl]
  refine K H.size hH.1 hH.2.1 p l e s m args below meth c D cA hc _ locs lsA (zH_new hH (by simp) ?_ ?_) ⟨Nat.le_trans hS.1 (by simp), fun x h3 h4 => ?_, hS.2.2⟩ hL
  · show (H.push _)[H.size]? = some (arrV (cA t) n.toNat (fun _ => .null))
    rw [Array.getElem?_push_size, ← arrV_new]
  · intro q hq
    rw [Array.getElem?_push, if_neg (Nat.ne_of_lt hq)]
  · rw [Array.getElem?_push, if_neg (Nat.ne_of_lt (Nat.lt_of_lt_of_le h3 hS.1))]
    exact hS.2.1 x h3 h4
theorem zroom {d : Nat} {y : zY} {Rm : Room} {mc ms : Nat} (h1 : d + 1 ≤ Rm.frames) (h2 : 60 * (d + 1) ≤ Rm.locals) (hl : zYl y ≤ 30) : (zR d mc ms).frames + 1 ≤ Rm.frames ∧ 8 + (zYl y + 11) + (zR d mc ms).locals ≤ Rm.locals := by
  refine ⟨h1, ?_⟩
  show 8 + (zYl y + 11) + 60 * d ≤ Rm.locals
  omega
theorem zr_callV {i n mc ms a : Nat} {y : zY} {as : List zV} {fs : List zV} (hd : decode (zYb k) pc = .ok (.invokevirtual i, 3)) (hl : zCl (zYo k) i = some (0, y, n, mc, ms)) (hn : as.length = n) (hM : M a = some (.inl (zYo y, fs))) (hst : zcs st ≤ 8) (h1 : u.1 + mc ≤ Rm.cells) (h2 : u.2 + ms ≤ Rm.slots)
    {Q0 : Option zV → zM → Prop} (K : zCt lo d y mc ms (.inr (.inl (some a)) :: as) M Q0) (hQ : ∀ r M', Q0 r M' → zRn lo (d + 1) Rm k Fn (u.1 + mc, u.2 + ms) (pc + 3) ls (zpu r st) M') : zRn lo (d + 1) Rm k Fn u pc ls (as.reverse ++ .inr (.inl (some a)) :: st) M := by
  intro p l e s m args below meth c D cA hc H locs lsA hH hS hL
  obtain ⟨hx, hb, hr, hml, hown, hlk, hnm, hts, hK, hf1, hf2, hlo⟩ := id hc
  obtain ⟨ne, c1, c2, c3, -, c4, c5, c6, c7, c8, c9, c10, -⟩ := zCl_ok hl
  have hrec : ∃ cell : Cell, H[a]? = some cell ∧ cell.vm.isStatics = false ∧ s.vm.findClass (zYn y).cls = some cell.cls := by
    cases hq : vwCl[zYo y]? with
    | none =>
      have c10 := c10 (by decide)
      rw [hq] at c10
      simp at c10
    | some q =>
      have c10 := c10 (by decide)
      rw [hq] at c10
      have := va_recv hK.1 (zP1 hH hM) (ci := zYo y) (q0 := 0) hq rfl
      rw [show q.1 = (zYn y).cls from Option.some.inj c10] at this
      exact this
  have hpre : PreV s H (zYn y).cls a (zPre D cA lo (.inr (.inl (some a)) :: as) M) (as.map tv) := ⟨zPre_blind, hrec, fun U hU hW => ⟨rfl, by rw [hU]; exact hH, zK_warm hW hK⟩⟩
  have hstk : (F0 m pc lsA ((as.reverse ++ .inr (.inl (some a)) :: st).map tv)).stack = (as.map tv).reverse ++ .ref a :: st.map tv := by simp [F0, tv, va_rf]
  have hroom := lv_room (pc := pc) (ls := lsA) (m := m) (rest := (as.reverse ++ .inr (.inl (some a)) :: st).map tv) (st := st.map tv) (by rw [zcs_sum]; exact hst)
  have key : va_Run p l e Rm s m args below meth c H locs u.1 u.2 mc ms (F0 m pc lsA ((as.reverse ++ .inr (.inl (some a)) :: st).map tv)) (st.map tv) (zPost D cA lo Q0 (Value.ref a :: as.map tv).toArray) (fun q => lo ≤ q) := by
    by_cases hne : ne = 1
    · rw [if_pos hne] at c1
      rw [if_neg (by decide)] at c2
      exact va_runVN (nL := zYl k) ⟨hx, hb, hml, hown, hts⟩ (K l D cA) ⟨va_cnB n hts (zGood c5) rfl rfl rfl (hK.2.1 _ c1) (hts _ c4) ⟨c6.1, c6.2, c7⟩ (zroom hf1 hf2 c8), hts _ c2, hts _ (c3 rfl)⟩ hpre rfl (by rw [List.length_map]; exact hn) hL.2.1 hstk hroom hd ⟨h1, h2⟩
    · rw [if_neg hne] at c1
      rw [if_neg (by decide)] at c2
      refine va_runV (nL := zYl k) ⟨hx, hb, hml, hown, hts⟩ (K l D cA) (cwV n hts (zGoodL c5 ?_) rfl rfl rfl ⟨rfl, c6.1, c6.2, c7⟩ (zroom hf1 hf2 c8)) hpre rfl (by rw [List.length_map]; exact hn) hL.2.1 hstk hroom hd ⟨h1, h2⟩
      intro w hw
      simp only [List.mem_cons, List.not_mem_nil, or_false] at hw
      rcases hw with rfl | rfl | rfl | rfl
      · exact c1
      · exact c2
      · exact c3 rfl
      · exact c4
  refine zcall key hS (fun r M' H1 locs1 hq hh hS1 => ?_)
  rw [zpu_map]
  exact hQ r M' hq p l e s m args below meth c D cA hc H1 locs1 lsA hh hS1 hL
theorem zr_callS {i n mc ms : Nat} {y : zY} {as : List zV} (hd : decode (zYb k) pc = .ok (.invokestatic i, 3)) (hl : zCl (zYo k) i = some (1, y, n, mc, ms)) (hn : as.length = n) (hst : zcs st ≤ 8) (h1 : u.1 + mc ≤ Rm.cells) (h2 : u.2 + ms ≤ Rm.slots)
    {Q0 : Option zV → zM → Prop} (K : zCt lo d y mc ms as M Q0) (hQ : ∀ r M', Q0 r M' → zRn lo (d + 1) Rm k Fn (u.1 + mc, u.2 + ms) (pc + 3) ls (zpu r st) M') : zRn lo (d + 1) Rm k Fn u pc ls (as.reverse ++ st) M := by
  intro p l e s m args below meth c D cA hc H locs lsA hH hS hL
  obtain ⟨hx, hb, hr, hml, hown, hlk, hnm, hts, hK, hf1, hf2, hlo⟩ := id hc
  obtain ⟨ne, c1, c2, -, -, c4, c5, c6, c7, c8, c9, c10, c11⟩ := zCl_ok hl
  rw [if_pos rfl] at c2
  have hpre : PreS s H (zPre D cA lo as M) (as.map tv) := ⟨zPre_blind, fun U hU hW => ⟨rfl, by rw [hU]; exact hH, zK_warm hW hK⟩⟩
  have hstk : (F0 m pc lsA ((as.reverse ++ st).map tv)).stack = (as.map tv).reverse ++ st.map tv := by simp [F0]
  have hroom := lv_room (pc := pc) (ls := lsA) (m := m) (rest := (as.reverse ++ st).map tv) (st := st.map tv) (by rw [zcs_sum]; exact hst)
  have key : va_Run p l e Rm s m args below meth c H locs u.1 u.2 mc ms (F0 m pc lsA ((as.reverse ++ st).map tv)) (st.map tv) (zPost D cA lo Q0 (as.map tv).toArray) (fun q => lo ≤ q) := by
    by_cases hne : ne = 1
    · rw [if_pos hne] at c1
      exact va_runSN (nL := zYl k) ⟨hx, hb, hml, hown, hts⟩ (K l D cA) ⟨va_cnB n hts (zGood c5) rfl rfl rfl (hK.2.1 _ c1) (hts _ c4) ⟨c6.1, c6.2, c7⟩ (zroom hf1 hf2 c8), hts _ c2, trivial⟩ hpre rfl (by rw [List.length_map]; exact hn) hL.2.1 hstk hroom hd ⟨h1, h2⟩
    · rw [if_neg hne] at c1
      refine va_runS (nL := zYl k) ⟨hx, hb, hml, hown, hts⟩ (K l D cA) (va_cwS n hts (zGoodL c5 ?_) rfl rfl rfl ⟨c6.1, c6.2, c7⟩ (zroom hf1 hf2 c8)) hpre rfl (by rw [List.length_map]; exact hn) hL.2.1 hstk hroom hd ⟨h1, h2⟩
      intro w hw
      simp only [List.mem_cons, List.not_mem_nil, or_false] at hw
      rcases hw with rfl | rfl | rfl
      · exact c1
      · exact c2
      · exact c4
  refine zcall key hS (fun r M' H1 locs1 hq hh hS1 => ?_)
  rw [zpu_map]
  exact hQ r M' hq p l e s m args below meth c D cA hc H1 locs1 lsA hh hS1 hL
theorem zr_callI {i n mc ms a : Nat} {y : zY} {as : List zV} (hd : decode (zYb k) pc = .ok (.invokespecial i, 3)) (hl : zCl (zYo k) i = some (2, y, n, mc, ms)) (hn : as.length = n) (hst : zcs st ≤ 8) (h1 : u.1 + mc ≤ Rm.cells) (h2 : u.2 + ms ≤ Rm.slots)
    {Q0 : Option zV → zM → Prop} (K : zCt lo d y mc ms (.inr (.inl (some a)) :: as) M Q0) (hQ : ∀ r M', Q0 r M' → zRn lo (d + 1) Rm k Fn (u.1 + mc, u.2 + ms) (pc + 3) ls (zpu r st) M') : zRn lo (d + 1) Rm k Fn u pc ls (as.reverse ++ .inr (.inl (some a)) :: st) M := by
  intro p l e s m args below meth c D cA hc H locs lsA hH hS hL
  obtain ⟨hx, hb, hr, hml, hown, hlk, hnm, hts, hK, hf1, hf2, hlo⟩ := id hc
  obtain ⟨ne, c1, c2, -, c3, c4, c5, c6, c7, c8, c9, c10, -⟩ := zCl_ok hl
  obtain ⟨c3, c3r⟩ := c3 rfl
  rw [if_neg (by decide)] at c2
  have hpre : PreS s H (zPre D cA lo (.inr (.inl (some a)) :: as) M) (.ref a :: as.map tv) := ⟨zPre_blind, fun U hU hW => ⟨rfl, by rw [hU]; exact hH, zK_warm hW hK⟩⟩
  have hstk : (F0 m pc lsA ((as.reverse ++ .inr (.inl (some a)) :: st).map tv)).stack = (as.map tv).reverse ++ .ref a :: st.map tv := by simp [F0, tv, va_rf]
  have hroom := lv_room (pc := pc) (ls := lsA) (m := m) (rest := (as.reverse ++ .inr (.inl (some a)) :: st).map tv) (st := st.map tv) (by rw [zcs_sum]; exact hst)
  have key : va_Run p l e Rm s m args below meth c H locs u.1 u.2 mc ms (F0 m pc lsA ((as.reverse ++ .inr (.inl (some a)) :: st).map tv)) (st.map tv) (zPost D cA lo Q0 (Value.ref a :: as.map tv).toArray) (fun q => lo ≤ q) := by
    by_cases hne : ne = 1
    · rw [if_pos hne] at c1
      have cw := va_cnB (R := Rm) (rm := zR d mc ms) (mc := mc) (ms := ms) n hts (zGood c5) rfl rfl rfl (hK.2.1 _ c1) (hts _ c4) ⟨c6.1, c6.2, c7⟩ (zroom hf1 hf2 c8)
      rw [c3r] at cw
      exact va_runIN (nL := zYl k) ⟨hx, hb, hml, hown, hts⟩ (K l D cA) ⟨cw, c3, hts _ c2⟩ hpre rfl (by rw [List.length_map]; exact hn) hL.2.1 hstk hroom hd ⟨h1, h2⟩
    · rw [if_neg hne] at c1
      have cb := callB_of (R := Rm) (rm := zR d mc ms) (mc := mc) (ms := ms) n hts (zGood c5) rfl rfl rfl (hts _ c4) (hts _ c1) ⟨c6.1, c6.2, c7⟩ (zroom hf1 hf2 c8)
      rw [c3r] at cb
      exact va_runI (nL := zYl k) ⟨hx, hb, hml, hown, hts⟩ (K l D cA) ⟨cb, c3, hts _ c2⟩ hpre rfl (by rw [List.length_map]; exact hn) hL.2.1 hstk hroom hd ⟨h1, h2⟩
  refine zcall key hS (fun r M' H1 locs1 hq hh hS1 => ?_)
  rw [zpu_map]
  exact hQ r M' hq p l e s m args below meth c D cA hc H1 locs1 lsA hh hS1 hL
theorem zr_objInit {i a : Nat} (hd : decode (zYb k) pc = .ok (.invokespecial i, 3)) (hl : zOk (zYo k) i = true) (hst : zcs st ≤ 8) (K : zRn lo (d + 1) Rm k Fn u (pc + 3) ls st M) : zRn lo (d + 1) Rm k Fn u pc ls (.inr (.inl (some a)) :: st) M := by
  intro p l e s m args below meth c D cA hc H locs lsA hH hS hL
  obtain ⟨hx, hb, hr, hml, hown, hlk, hnm, hts, hK, hf1, hf2, hlo⟩ := id hc
  obtain ⟨x, hx1⟩ := Option.isSome_iff_exists.mp (show (zOt.find? (fun x => x.1 == (zYo k, i))).isSome = true from hl)
  have hp := List.find?_some hx1
  simp only [beq_iff_eq] at hp
  have h2 := zOc_ok
  simp only [Bool.and_eq_true] at h2
  have h3 := List.all_eq_true.mp h2.1.1 x (List.mem_of_find?_eq_some hx1)
  rw [hp] at h3
  exact W.objInit hx hb hown (hts _ (zWd_tw h3 rfl)) (hts _ (zWd_tw h2.1.2 rfl)) (hts _ (zWd_tw h2.2 rfl)) rfl (by rw [hml]; exact hL.2.1) rfl hd (by omega) (by show 2 * 0 + _ + 12 ≤ _; rw [zcs_sum]; omega) (K p l e s m args below meth c D cA hc H locs lsA hH hS hL)
theorem zr_copy {i a a0 n0 n1 : Nat} {sp dp n : Int} {f g : Nat → Int} (hd : decode (zYb k) pc = .ok (.invokestatic i, 3)) (hl : zAk (zYo k) i = true) (hne : a ≠ a0) (hM0 : M a0 = some (.inr (0, n0, .inl f))) (hM1 : M a = some (.inr (0, n1, .inl g))) (h1 : 0 ≤ sp) (h2 : 0 ≤ dp) (h3 : 0 ≤ n) (h4 : sp + n ≤ (n0 : Int)) (h5 : dp + n ≤ (n1 : Int)) (h6 : n0 < 2147483648) (h7 : n1 < 2147483648) (hst : zcs st ≤ 8)
    (K : zRn lo (d + 1) Rm k Fn u (pc + 3) ls st (zup M a (.inr (0, n1, .inl (zcp f g sp.toNat dp.toNat n.toNat))))) : zRn lo (d + 1) Rm k Fn u pc ls (.inl n :: .inl dp :: .inr (.inl (some a)) :: .inl sp :: .inr (.inl (some a0)) :: st) M := by
  intro p l e s m args below meth c D cA hc H locs lsA hH hS hL
  obtain ⟨hx, hb, hr, hml, hown, hlk, hnm, hts, hK, hf1, hf2, hlo⟩ := id hc
  obtain ⟨x, hx1⟩ := Option.isSome_iff_exists.mp (show (zAt.find? (fun x => x.1 == (zYo k, i))).isSome = true from hl)
  have hp := List.find?_some hx1
  simp only [beq_iff_eq] at hp
  have g2 := zAc_ok
  simp only [Bool.and_eq_true] at g2
  have g3 := List.all_eq_true.mp g2.1.1.1 x (List.mem_of_find?_eq_some hx1)
  rw [hp] at g3
  have hP : va_P D vwCl [(a0, zE cA (.inr (0, n0, .inl f))), (a, zE cA (.inr (0, n1, .inl g)))] H := by
    intro j x hj
    match j, hj with
    | 0, hj => cases hj; exact (hH.2.2.1 a0 _ hM0).1 rfl
    | 1, hj => cases hj; exact (hH.2.2.1 a _ hM1).1 rfl
    | j + 2, hj => simp at hj
  have hD : va_D (fun q => lo ≤ q) [(a0, zE cA (.inr (0, n0, .inl f))), (a, zE cA (.inr (0, n1, .inl g)))] := by
    refine ⟨fun i j p q hi hj hpq => ?_, fun j q hj => ?_⟩
    · match i, j, hi, hj with
      | 0, 0, _, _ => rfl
      | 1, 1, _, _ => rfl
      | 0, 1, hi, hj => cases hi; cases hj; exact absurd hpq.symm hne
      | 1, 0, hi, hj => cases hi; cases hj; exact absurd hpq hne
      | i + 2, _, hi, _ => simp at hi
      | _, j + 2, _, hj => simp at hj
    · match j, hj with
      | 0, hj => cases hj; exact (zH_in hH hM0 rfl).1
      | 1, hj => cases hj; exact (zH_in hH hM1 rfl).1
      | j + 2, hj => simp at hj
  have c1 := zClamp h1 (show sp < 2147483648 by omega)
  have c2 := zClamp h2 (show dp < 2147483648 by omega)
  have c3 := zClamp h3 (show n < 2147483648 by omega)
  have b1 := zNotNeg h1 (show sp < 2147483648 by omega)
  have b2 := zNotNeg h2 (show dp < 2147483648 by omega)
  have b3 := zNotNeg h3 (show n < 2147483648 by omega)
  have hfrm : nativeFrameWords "java/lang/System" "arraycopy" 5 = 7 := by decide +kernel
  -- the heap behind it is known by its cells: one copy of the memory for each
  have nn : ∀ z : Int32, ¬ z < 0 → z.toInt = (z.toNatClampNeg : Int) := by
    intro z hz
    have hz0 : (0 : Int) ≤ z.toInt := by
      have := Int32.not_lt.mp hz
      simpa using Int32.le_iff_toInt_le.mp this
    show z.toInt = ((z.toInt.toNat : Nat) : Int)
    omega
  intro T hT X
  have hc0 : H[a0]? = some (vp_cell (cA 0) (n0, .inl (fun j => Int32.ofInt (f j)))) := hP 0 _ rfl
  have hc1 : H[a]? = some (vp_cell (cA 0) (n1, .inl (fun j => Int32.ofInt (g j)))) := hP 1 _ rfl
  obtain ⟨-, k0, hk0, cm0, hkk0⟩ := (hK.1.2 0 _ rfl).1 n0 (fun j => .int (Int32.ofInt (f j)))
  obtain ⟨vm', X', step⟩ := X.arraycopy hx hown (hts _ (zWd_tw g3 rfl)) (hts _ (zWd_tw g2.1.1.2 rfl)) (hts _ (zWd_tw g2.1.2 rfl)) (hts _ (zWd_tw g2.2 rfl)) (src := a0) (dst := a) (cs := vp_cell (cA 0) (n0, .inl (fun j => Int32.ofInt (f j)))) (cd := vp_cell (cA 0) (n1, .inl (fun j => Int32.ofInt (g j)))) (srcPos := Int32.ofInt sp) (destPos := Int32.ofInt dp) (n := Int32.ofInt n) (by rw [hT]; exact hc0) (by rw [hT]; exact hc1)
    (fun _ h => by cases h) (fun _ h => by cases h) (fun h => by cases h) (fun h => by cases h) hk0 hk0 hkk0 hkk0 (by simp [refKind]) b1 b2 b3
    (by rw [nn _ b1, nn _ b3, c1, c3]; show ¬ _ > ((arrV (cA 0) n0 (fun j => .int (Int32.ofInt (f j)))).slots.size : Int); rw [arrV_size]; omega)
    (by rw [nn _ b2, nn _ b3, c2, c3]; show ¬ _ > ((arrV (cA 0) n1 (fun j => .int (Int32.ofInt (g j)))).slots.size : Int); rw [arrV_size]; omega)
    (fun vm₁ _ i hi => by
      have e : (vp_cell (cA 0) (n0, .inl (fun j => Int32.ofInt (f j)))).slots.getD ((Int32.ofInt sp).toNatClampNeg + i) .null = .int (Int32.ofInt (f ((Int32.ofInt sp).toNatClampNeg + i))) := by
        show (arrV (cA 0) n0 (fun j => .int (Int32.ofInt (f j)))).slots.getD _ _ = _
        rw [Array.getD_eq_getD_getElem?, arrV_read _ _ (by rw [c3] at hi; rw [c1]; omega)]
        rfl
      refine ⟨?_, ?_⟩
      · rw [e]
        rfl
      · rw [e]
        exact trivial)
    (g := F0 m pc lsA (.int (Int32.ofInt n) :: .int (Int32.ofInt dp) :: .ref a :: .int (Int32.ofInt sp) :: .ref a0 :: st.map tv)) rfl (by rw [hml]; exact hL.2.1) (rest := st.map tv) rfl (by rw [hb]; exact hd) (by omega) (by show 2 * 0 + _ + _ ≤ _; rw [hfrm, zcs_sum]; omega)
  have e1 : copied (vp_cell (cA 0) (n0, .inl (fun j => Int32.ofInt (f j)))) (vp_cell (cA 0) (n1, .inl (fun j => Int32.ofInt (g j)))) (Int32.ofInt sp) (Int32.ofInt dp) (Int32.ofInt n) = vp_cell (cA 0) (n1, .inl (fun j => Int32.ofInt (zcp f g sp.toNat dp.toNat n.toNat j))) := by
    have e2 : copied (vp_cell (cA 0) (n0, .inl (fun j => Int32.ofInt (f j)))) (vp_cell (cA 0) (n1, .inl (fun j => Int32.ofInt (g j)))) (Int32.ofInt sp) (Int32.ofInt dp) (Int32.ofInt n) = vp_cell (cA 0) (n1, .inl (va_cpy (fun j => Int32.ofInt (f j)) (fun j => Int32.ofInt (g j)) (Int32.ofInt sp).toNatClampNeg (Int32.ofInt dp).toNatClampNeg (Int32.ofInt n).toNatClampNeg)) := va_copied (n0 := n0) (n1 := n1) (fun z => .int z) (cA 0) (cA 0) (fun j => Int32.ofInt (f j)) (fun j => Int32.ofInt (g j)) (by rw [c1, c3]; omega)
    rw [e2, c1, c2, c3]
    congr 3
    funext j
    simp only [va_cpy, zcp]
    split <;> rfl
  rw [e1] at X' step
  have hl : a < H.size := (Array.getElem?_eq_some_iff.mp hc1).1
  have hheap : ((T.setVm vm').setCell a (vp_cell (cA 0) (n1, .inl (fun j => Int32.ofInt (zcp f g sp.toNat dp.toNat n.toNat j))))).heap = H.setIfInBounds a (vp_cell (cA 0) (n1, .inl (fun j => Int32.ofInt (zcp f g sp.toNat dp.toNat n.toNat j)))) := by rw [← hT]; rfl
  have oq : ∀ q : Nat, q ≠ a → (H.setIfInBounds a (vp_cell (cA 0) (n1, .inl (fun j => Int32.ofInt (zcp f g sp.toNat dp.toNat n.toNat j)))))[q]? = H[q]? := fun q hq => by simp [Array.getElem?_setIfInBounds, Ne.symm hq]
  obtain ⟨t, a1, b1⟩ := K p l e s m args below meth c D cA hc _ _ lsA (zH_set hH (zH_in hH hM1 rfl) (by simp) (show (H.setIfInBounds a _)[a]? = some _ by simp [Array.getElem?_setIfInBounds, hl]) oq) ⟨by simp; exact hS.1, fun q g1 g2 => by
      rw [oq q (fun e => g2 (by rw [e]; exact (zH_in hH hM1 rfl).1))]
      exact hS.2.1 q g1 g2, fun q hq => by
      rcases List.mem_append.mp hq with h | h
      · exact hS.2.2 q h
      · obtain ⟨z, -, hz⟩ := List.mem_map.mp h
        rw [← hz]
        exact (zH_in hH hM1 rfl).1⟩ hL _ hheap X'
  exact ⟨t, step t a1, b1⟩
end ZN
-- returns of a method
section ZF
variable {lo d mc ms : Nat} {k : zY} {Q : Option zV → zM → Prop} {u : Nat × Nat} {pc : Nat} {ls : List (Option zV)} {M : zM}
theorem zr_iret {z : Int} (hd : decode (zYb k) pc = .ok (.ireturn, 1)) (hr : zYr k = some .int) (h1 : u.1 ≤ mc) (h2 : u.2 ≤ ms) (hq : Q (some (.inl z)) M) : zRn lo d (zR d mc ms) k (zFn lo mc ms Q) u pc ls [.inl z] M := by
  intro p l e s m args below meth c D cA hc H locs lsA hH hS hL
  have hlocks := hc.2.2.2.2.2.1
  exact W.widen h1 h2 (W.iret hc.1 hc.2.1 (hc.2.2.1.trans hr) (fun t ht hW => ⟨⟨some (.inl z), M, rfl, hq, by rw [ht]; exact hH⟩, hS.F ht⟩) hS.2.2 hd)
theorem zr_zret {z : Int} (hd : decode (zYb k) pc = .ok (.ireturn, 1)) (hr : zYr k = some .boolean) (hz : z = 0 ∨ z = 1) (h1 : u.1 ≤ mc) (h2 : u.2 ≤ ms) (hq : Q (some (.inl z)) M) : zRn lo d (zR d mc ms) k (zFn lo mc ms Q) u pc ls [.inl z] M := by
  intro p l e s m args below meth c D cA hc H locs lsA hH hS hL
  have hlocks := hc.2.2.2.2.2.1
  have hn : narrow .boolean (.int (Int32.ofInt z)) = .int (Int32.ofInt z) := by rcases hz with rfl | rfl <;> rfl
  exact W.widen h1 h2 (W.zret hc.1 hc.2.1 (hc.2.2.1.trans hr) hn (fun t ht hW => ⟨⟨some (.inl z), M, rfl, hq, by rw [ht]; exact hH⟩, hS.F ht⟩) hS.2.2 hd)
theorem zr_vret (hd : decode (zYb k) pc = .ok (.return_, 1)) (hr : zYr k = none) (h1 : u.1 ≤ mc) (h2 : u.2 ≤ ms) (hq : Q none M) : zRn lo d (zR d mc ms) k (zFn lo mc ms Q) u pc ls [] M := by
  intro p l e s m args below meth c D cA hc H locs lsA hH hS hL
  have hlocks := hc.2.2.2.2.2.1
  exact W.widen h1 h2 (W.vret hc.1 hc.2.1 (hc.2.2.1.trans hr) (fun t ht hW => ⟨⟨none, M, rfl, hq, by rw [ht]; exact hH⟩, hS.F ht⟩) hS.2.2 hd)
theorem zr_aret {r : Option Nat} {C : String} (hd : decode (zYb k) pc = .ok (.areturn, 1)) (hr : zYr k = some (.object C)) (h1 : u.1 ≤ mc) (h2 : u.2 ≤ ms) (hq : Q (some (.inr (.inl r))) M) : zRn lo d (zR d mc ms) k (zFn lo mc ms Q) u pc ls [.inr (.inl r)] M := by
  intro p l e s m args below meth c D cA hc H locs lsA hH hS hL
  have hlocks := hc.2.2.2.2.2.1
  exact W.widen h1 h2 (W.aret hc.1 hc.2.1 (hc.2.2.1.trans hr) (Or.inl ⟨C, rfl⟩) (va_rf_or r) (fun t ht hW => ⟨⟨some (.inr (.inl r)), M, rfl, hq, by rw [ht]; exact hH⟩, hS.F ht⟩) hS.2.2 hd)
theorem zr_lret {z : Int64} (hd : decode (zYb k) pc = .ok (.lreturn, 1)) (hr : zYr k = some .long) (h1 : u.1 ≤ mc) (h2 : u.2 ≤ ms) (hq : Q (some (.inr (.inr z))) M) : zRn lo d (zR d mc ms) k (zFn lo mc ms Q) u pc ls [.inr (.inr z)] M := by
  intro p l e s m args below meth c D cA hc H locs lsA hH hS hL
  have hlocks := hc.2.2.2.2.2.1
  exact W.widen h1 h2 (W.lret hc.1 hc.2.1 (hc.2.2.1.trans hr) (fun t ht hW => ⟨⟨some (.inr (.inr z)), M, rfl, hq, by rw [ht]; exact hH⟩, hS.F ht⟩) hS.2.2 hd)
end ZF
