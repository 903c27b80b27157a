section LL
variable {lo b L x m : Nat} {xs : Nat → Int32} {u : Nat × Nat}
theorem law_loop (hL : L ≤ 2048) (hu : u.1 ≤ 600000 ∧ u.2 ≤ 7302250) (hxm : x + 174 ≤ m) : ∀ (n i : Nat) (M : zM) (A : aS), L - i ≤ n → i ≤ L → clG M x A → mdG M m A → wfA A → zLw lo b L xs u 18 [some (Sum.inr (Sum.inl (some (b)))), some (Sum.inr (Sum.inl (some (x)))), some (Sum.inr (Sum.inl (some (m)))), some (Sum.inl ((i : Int)))] [] M := by
  intro n
  induction n with
  | zero =>
    intro i M A hn hiL hc hd hw
    refine zr_iload_n (n := 3) eL_law_18 rfl ?_
    refine zr_aload_n (n := 0) eL_law_19 rfl ?_
    refine zr_slen eL_law_20 ?_
    refine zr_iconst eL_law_21 ?_
    refine zr_isub eL_law_22 ?_
    refine zr_icmp eL_law_23 (by decide) (zrr (by omega) (by omega)) (zrr (by omega) (by omega)) (fun _ => ?_) (fun q => ?_)
    · refine zr_iconst eL_law_845 ?_
      exact zr_lend eL_law_846 hu.1 hu.2
    · have q : ¬ ((L : Int) - 4 < (i : Int)) := q
      omega
  | succ n ih =>
    intro i M A hn hiL hc hd hw
    refine zr_iload_n (n := 3) eL_law_18 rfl ?_
    refine zr_aload_n (n := 0) eL_law_19 rfl ?_
    refine zr_slen eL_law_20 ?_
    refine zr_iconst eL_law_21 ?_
    refine zr_isub eL_law_22 ?_
    refine zr_icmp eL_law_23 (by decide) (zrr (by omega) (by omega)) (zrr (by omega) (by omega)) (fun _ => ?_) (fun q => ?_)
    · refine zr_iconst eL_law_845 ?_
      exact zr_lend eL_law_846 hu.1 hu.2
    · have q : ¬ ((L : Int) - 4 < (i : Int)) := q
      have hi : i + 3 < L := by omega
      have hK : ∀ M' A', clG M' x A' → mdG M' m A' → wfA A' → zLw lo b L xs u 839 [some (Sum.inr (Sum.inl (some (b)))), some (Sum.inr (Sum.inl (some (x)))), some (Sum.inr (Sum.inl (some (m)))), some (Sum.inl ((i : Int)))] [] M' := by
        intro M' A' c' d' w'
        refine zr_iinc (n := 3) eL_law_839 rfl trivial ?_
        refine zr_goto eL_law_842 (by decide) ?_
        exact ih (i + 4) M' A' (by omega) (by omega) c' d' w'
      have hK2 : ∀ M' A', clG M' x A' → mdG M' m A' → wfA A' → (∀ q, (q < x ∨ m + 13 ≤ q) → M' q = M q) → zLw lo b L xs u 839 [some (Sum.inr (Sum.inl (some (b)))), some (Sum.inr (Sum.inl (some (x)))), some (Sum.inr (Sum.inl (some (m)))), some (Sum.inl ((i : Int)))] [] M' := fun M' A' c' d' w' _ => hK M' A' c' d' w'
      refine zr_aload_n (n := 0) eL_law_26 rfl ?_
      refine zr_iload_n (n := 3) eL_law_27 rfl ?_
      refine zr_sld eL_law_28 (by omega) hL ?_
      refine zr_bipush eL_law_29 (by decide) (by decide) ?_
      refine zr_iand eL_law_31 ?_
      refine zr_tsw eL_law_32 (xr_ _) rfl (by decide) ?_ (fun _ => hK M A hc hd hw)
      refine And.intro (fun _ => And.intro (by decide) (lc_sew hL hi hu hxm hc hd hw hK2)) ?_
      refine And.intro (fun _ => And.intro (by decide) (lc_burn hL hi hu hxm hc hd hw hK2)) ?_
      refine And.intro (fun _ => And.intro (by decide) (lc_cut hL hi hu hxm hc hd hw hK2)) ?_
      refine And.intro (fun _ => And.intro (by decide) (lc_undoSeam hL hi hu hxm hc hd hw hK2)) ?_
      refine And.intro (fun _ => And.intro (by decide) (lc_turn hL hi hu hxm hc hd hw hK2)) ?_
      refine And.intro (fun _ => And.intro (by decide) (lc_exchange hL hi hu hxm hc hd hw hK2)) ?_
      refine And.intro (fun _ => And.intro (by decide) (lc_join hL hi hu hxm hc hd hw hK2)) ?_
      refine And.intro (fun _ => And.intro (by decide) (lc_scroll hL hi hu hxm hc hd hw hK2)) ?_
      refine And.intro (fun _ => And.intro (by decide) (lc_patch hL hi hu hxm hc hd hw hK2)) ?_
      refine And.intro (fun _ => And.intro (by decide) (lc_letter hL hi hu hxm hc hd hw hK2)) ?_
      refine And.intro (fun _ => And.intro (by decide) (lc_reading hL hi hu hxm hc hd hw hK2)) ?_
      refine And.intro (fun _ => And.intro (by decide) (lc_find hL hi hu hxm hc hd hw hK2)) ?_
      refine And.intro (fun _ => And.intro (by decide) (lc_shared hL hi hu hxm hc hd hw hK2)) ?_
      refine And.intro (fun _ => And.intro (by decide) (lc_compare hL hi hu hxm hc hd hw hK2)) ?_
      refine And.intro (fun _ => And.intro (by decide) (lc_count hL hi hu hxm hc hd hw hK2)) ?_
      refine And.intro (fun _ => And.intro (by decide) (lc_ifCut hL hi hu hxm hc hd hw hK2)) ?_
      refine And.intro (fun _ => And.intro (by decide) (lc_bestCut hL hi hu hxm hc hd hw hK2)) ?_
      refine And.intro (fun _ => And.intro (by decide) (lc_put hL hi hu hxm hc hd hw hK2)) ?_
      refine And.intro (fun _ => And.intro (by decide) (lc_wipe hL hi hu hxm hc hd hw hK2)) ?_
      refine And.intro (fun _ => And.intro (by decide) (lc_fault hL hi hu hxm hc hd hw hK2)) ?_
      refine And.intro (fun _ => And.intro (by decide) (lc_undo hL hi hu hxm hc hd hw hK2)) ?_
      refine And.intro (fun _ => And.intro (by decide) (lc_save hL hi hu hxm hc hd hw hK2)) ?_
      refine And.intro (fun _ => And.intro (by decide) (lc_restore hL hi hu hxm hc hd hw hK2)) ?_
      trivial
end LL
set_option maxHeartbeats 4000000 in
/-- YOUR PART: from the entry, for every script of at most 2048 ints, the law comes to its end with true ('hflags': the launch's flags, for a law that throws: no stack traces) -/
theorem whole_start {p : Program} {e : Env} {s : State} {m : MethodId} {below : List Frame} {meth : Method} {c : Code} (l : Launch) (_hflags : l.flags = flags0) {b L : Nat} {xs : Nat → Int32} (hL : L ≤ 2048) (C0 : lw_At p s m meth c b L xs) : W p l e room_1 s m #[Value.ref b] below meth c s.heap [] 0 0 (lw_Z below #[Value.ref b] s) (entryFrame m ([Value.ref b] : List Value).toArray 4) := by
  obtain ⟨hx, hb, hr, hml, hown, hts, hX, hbl, hlocks, hgv, hnm⟩ := id C0
  obtain ⟨D, cA, hK⟩ := zK_start hts
  have hl := lv_entry ([.ref b]) (n := 4) (Nat.le_of_ble_eq_true rfl)
  rw [lg_entry_eq]
  generalize (lg_sl ([.ref b]) ++ List.replicate (4 - (lg_sl ([.ref b])).length) Slot.unset).toArray = ls at hl ⊢
  have hl : lv_has ls 4 [(0, .ref b)] := hl
  have hE : zEx s.heap.size s.heap.size (fun _ => none) := ⟨Nat.le_refl _, fun q => ⟨fun h => absurd rfl h, fun h => by omega⟩⟩
  have main : zLw s.heap.size b L xs (0, 0) 0 [some (Sum.inr (Sum.inl (some (b)))), none, none, none] [] (fun _ => none) := by
    generalize s.heap.size = lo at hE ⊢
    refine zr_new eL_law_0 zN_8_7 (Nat.le_of_ble_eq_true rfl) (Nat.le_of_ble_eq_true rfl) (fun nx h1 h2 => ?_)
    have e := hE.u h1 h2
    subst e
    have g3 := hE.new (c := .inl (6, zDf 6))
    refine zr_dup eL_law_3 (fun y h => (by cases h)) ?_
    refine zr_callI (as := []) eL_law_4 zC_8_9 rfl (Nat.le_of_ble_eq_true rfl) (Nat.le_of_ble_eq_true rfl) (Nat.le_of_ble_eq_true rfl) (c_X6_init (d := 26) (Q := fun r M' => r = none ∧ clG M' nx A0 ∧ zEx nx (nx + 174) M') (Nat.le_refl _) zup_same g3 (fun M' a1 a2 _ => ⟨rfl, a1, a2⟩)) (fun r M1 hq => ?_)
    obtain ⟨rfl, c1, x1⟩ := hq
    refine zr_astore_n (n := 1) eL_law_7 rfl trivial ?_
    refine zr_new eL_law_8 zN_8_10 (Nat.le_of_ble_eq_true rfl) (Nat.le_of_ble_eq_true rfl) (fun nx2 h1 h2 => ?_)
    have e := x1.u h1 h2
    subst e
    have g3 := x1.new (c := .inl (7, zDf 7))
    refine zr_dup eL_law_11 (fun y h => (by cases h)) ?_
    have c2 : clG (zup M1 (nx + 174) (.inl (7, zDf 7))) nx A0 := c1.keepO zfr_at (by omega)
    refine zr_callI (as := []) eL_law_12 zC_8_12 rfl (Nat.le_of_ble_eq_true rfl) (Nat.le_of_ble_eq_true rfl) (Nat.le_of_ble_eq_true rfl) (c_X7_init (d := 29) (Q := fun r M' => r = none ∧ clG M' nx A0 ∧ mdG M' (nx + 174) A0) (by omega) zup_same g3 (fun M' a1 a2 a3 => ⟨rfl, c2.keepO (g3.fr a2 (by omega) a3) (by omega), a1⟩)) (fun r M2 hq => ?_)
    obtain ⟨rfl, c3, d3⟩ := hq
    refine zr_astore_n (n := 2) eL_law_15 rfl trivial ?_
    refine zr_iconst eL_law_16 ?_
    refine zr_istore_n (n := 3) eL_law_17 rfl trivial ?_
    exact law_loop hL ⟨Nat.le_of_ble_eq_true rfl, Nat.le_of_ble_eq_true rfl⟩ (Nat.le_refl _) L 0 M2 A0 (by omega) (Nat.zero_le _) c3 d3 wf_A0
  have fin := main p l e s m #[Value.ref b] below meth c D cA ⟨hx, hb, hr, hml, hown, hlocks, hnm, fun w hw => hts w (List.mem_filter.mp hw).1, hK, by decide, by decide, Nat.le_refl _⟩ s.heap [] ls ⟨Nat.le_refl _, hE.2, fun q c h => (by cases h)⟩ va_S.rf ⟨rfl, hl⟩
  intro T hT X
  obtain ⟨t, a1, b1⟩ := fin T hT X
  exact ⟨t, a1, b1 ⟨rfl, hX, hbl, rfl⟩⟩
