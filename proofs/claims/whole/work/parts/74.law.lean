-- THE LAW: its script lies below lo; what is read there is known where the start is as it must be
theorem zK_start {s : State} {args : Array Value} (hts : ∀ w ∈ lw_tbl, w.before args s = true) : ∃ (D : va_G) (cA : Nat → ClassId), zK D cA s := by
  have htw : ∀ w ∈ zTW, w.before args s = true := fun w hw => hts w (List.mem_filter.mp hw).1
  have hc : ∀ c : Nat, ∃ y : ClassId × (Nat → Nat), ∀ q : vw_C, vwCl[c]? = some q → u_Kn s q.1 q.2.1 q.2.2 y.1 y.2 := by
    intro c
    have main : ∀ {o i : Nat}, zNc o i = some c → ∃ y : ClassId × (Nat → Nat), ∀ q : vw_C, vwCl[c]? = some q → u_Kn s q.1 q.2.1 q.2.2 y.1 y.2 := by
      intro o i h
      obtain ⟨q, hq, -, g2, -⟩ := zNc_of h
      obtain ⟨cC, iS, hk⟩ := u_known (C := q.1) (T := q.2.1) (N := q.2.2) (n := q.2.2) htw (zIn hq) (htw _ g2)
      refine ⟨(cC, iS), fun q' hq' => ?_⟩
      have e := hq.symm.trans hq'
      cases e
      exact hk
    match c, @main with
    | 0, main => exact main zN_3_9
    | 1, main => exact main zN_6_23
    | 2, main => exact main zN_6_16
    | 3, main => exact main zN_6_38
    | 4, main => exact main zN_5_9
    | 5, main => exact main zN_6_7
    | 6, main => exact main zN_8_7
    | 7, main => exact main zN_8_10
    | n + 8, _ => exact ⟨(0, fun _ => 0), fun q h => (by simp [vwCl] at h)⟩
  obtain ⟨f, hf⟩ := Classical.axiomOfChoice hc
  have har := zArr_ok
  simp only [Bool.and_eq_true] at har
  obtain ⟨a0, k0, p0, f0, i0, t0⟩ := Cond.arrayClass_spec (hts _ (zWd_in har.1.1.1))
  obtain ⟨a1, k1, p1, f1, i1, t1⟩ := Cond.arrayClass_spec (hts _ (zWd_in har.1.1.2))
  obtain ⟨p2, a2, k2, g21, g22, g23, g24, g25⟩ := Cond.arrayOver_spec (hts _ (zWd_in har.1.2))
  obtain ⟨p3, a3, k3, g31, g32, g33, g34, g35⟩ := Cond.arrayOver_spec (hts _ (zWd_in har.2))
  refine ⟨(fun c => (f c).1, fun c => (f c).2), fun i => if i = 0 then a0 else if i = 1 then a1 else if i = 2 then a2 else a3, ⟨fun c q hq => hf c q hq, fun k q hq => ?_⟩, fun w hw => ?_, va_AO.of (hts _ (zWd_in har.1.2)), va_AO.of (hts _ (zWd_in har.2))⟩
  · match k, hq with
    | 0, h => cases h; exact ⟨fun n z => ⟨fun k h => (by cases h), k0, i0, p0, t0⟩, f0⟩
    | 1, h => cases h; exact ⟨fun n z => ⟨fun k h => (by cases h), k1, i1, p1, t1⟩, f1⟩
    | 2, h => cases h; exact ⟨fun n z => ⟨fun k h => (by cases h), k2, g23, p2, g24⟩, k2, p2, g23, g24, g21, g25⟩
    | 3, h => cases h; exact ⟨fun n z => ⟨fun k h => (by cases h), k3, g33, p3, g34⟩, k3, p3, g33, g34, g31, g35⟩
    | n + 4, h => simp [zT] at h
  · have hn := List.mem_filter.mp hw
    refine va_Nw.of ?_ (hts w hn.1)
    have h2 := hn.2
    cases w <;> first | rfl | (simp [zNest] at h2)
def PL (lo b L : Nat) (xs : Nat → Int32) (args : Array Value) (s : State) : Prop := args = #[Value.ref b] ∧ va_X b L xs s s.heap ∧ b < s.heap.size ∧ s.heap.size = lo
def FnL (lo b L : Nat) (xs : Nat → Int32) : List Frame → Array Value → State → va_G → (Nat → ClassId) → State → Prop := fun below args s _ _ t => PL lo b L xs args s → lw_Z below args s t
abbrev zLw (lo b L : Nat) (xs : Nat → Int32) (u : Nat × Nat) (pc : Nat) (ls : List (Option zV)) (st : List zV) (M : zM) : Prop := zRn lo 31 room_1 kL_law (FnL lo b L xs) u pc ls st M
section LW
variable {lo b L : Nat} {xs : Nat → Int32} {u : Nat × Nat} {pc : Nat} {ls : List (Option zV)} {st : List zV} {M : zM}
theorem zr_sld {i : Nat} (hd : decode (zYb kL_law) pc = .ok (.iaload, 1)) (hi : i < L) (hL : L ≤ 2048) (K : zLw lo b L xs u (pc + 1) ls (.inl (xs i).toInt :: st) M) : zLw lo b L xs u pc ls (.inl (i : Int) :: .inr (.inl (some b)) :: st) M := by
  intro p l e s m args below meth c D cA hc H locs lsA hH hS hL'
  have k0 := K p l e s m args below meth c D cA hc H locs lsA hH hS hL'
  by_cases hp : PL lo b L xs args s
  · obtain ⟨ea, hX, hb, hsz⟩ := hp
    have hin : vp_in (Int32.ofInt (i : Int)) L := zIdx (by omega) (by omega) (by omega)
    have ec : (Int32.ofInt (i : Int)).toNatClampNeg = i := by rw [zClamp (by omega) (by omega)]; exact Int.toNat_natCast i
    refine va_sld hc.1 hc.2.1 hX hb (by omega) hS hin hd ?_
    rw [ec]
    rw [List.map_cons, show tv (.inl (xs i).toInt) = .int (xs i) from by rw [tv, Int32.ofInt_toInt]] at k0
    exact k0
  · intro T hT X
    exact ⟨_, Steps.refl _, fun h => absurd h hp⟩
theorem zr_slen (hd : decode (zYb kL_law) pc = .ok (.arraylength, 1)) (K : zLw lo b L xs u (pc + 1) ls (.inl (L : Int) :: st) M) : zLw lo b L xs u pc ls (.inr (.inl (some b)) :: st) M := by
  intro p l e s m args below meth c D cA hc H locs lsA hH hS hL'
  have k0 := K p l e s m args below meth c D cA hc H locs lsA hH hS hL'
  by_cases hp : PL lo b L xs args s
  · obtain ⟨ea, hX, hb, hsz⟩ := hp
    refine va_slen hc.1 hc.2.1 hX hb (by omega) hS hd ?_
    rw [List.map_cons, show tv (.inl (L : Int)) = .int (Int32.ofNat L) from by rw [tv, Int32.ofInt_eq_ofNat]] at k0
    exact k0
  · intro T hT X
    exact ⟨_, Steps.refl _, fun h => absurd h hp⟩
theorem zr_same {off v : Int} (hd : decode (zYb kL_law) pc = .ok (.if_icmp .eq off, 3)) (h0 : 0 ≤ (pc : Int) + off) (K : zLw lo b L xs u (((pc : Int) + off).toNat) ls st M) : zLw lo b L xs u pc ls (.inl v :: .inl v :: st) M := by
  intro p l e s m args below meth c D cA hc H locs lsA hH hS hL'
  have k0 := K p l e s m args below meth c D cA hc H locs lsA hH hS hL'
  exact lv_icmp_eq hc.1 hc.2.1 hd (ztg h0) (fun _ => k0) (fun h => absurd rfl h)
theorem zr_lend (hd : decode (zYb kL_law) pc = .ok (.ireturn, 1)) (h1 : u.1 ≤ 600000) (h2 : u.2 ≤ 7302250) : zLw lo b L xs u pc ls [.inl 1] M := by
  intro p l e s m args below meth c D cA hc H locs lsA hH hS hL'
  by_cases hp : PL lo b L xs args s
  · obtain ⟨ea, hX, hb, hsz⟩ := id hp
    subst ea
    have kk : W p l e room_1 s m #[Value.ref b] below meth c H locs u.1 u.2 (lw_Z below #[Value.ref b] s) (F0 m pc lsA [.int 1]) := by
      refine va_forget (fun q hq => by have := hS.2.2 q hq; omega) ?_
      refine W.widen (k := 600000) (n := 7302250) h1 h2 ?_
      exact lw_ret hc.1 hc.2.1 hc.2.2.1 hc.2.2.2.2.2.1 hd
    intro T hT X
    obtain ⟨t, a1, b1⟩ := kk T hT X
    exact ⟨t, a1, fun _ => b1⟩
  · intro T hT X
    exact ⟨_, Steps.refl _, fun h => absurd h hp⟩
end LW
