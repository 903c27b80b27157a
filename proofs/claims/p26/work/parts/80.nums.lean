-- rows of letters as numbers
def ext (a : Int) (l : List Int) : Int := l.foldl (fun r c => 32 * r + c) a
def nm (l : List Int) : Int := ext 0 l
theorem ext_nil {a : Int} : ext a [] = a := rfl
theorem ext_cons {a c : Int} {l : List Int} : ext a (c :: l) = ext (32 * a + c) l := rfl
theorem ext_app {a : Int} {x y : List Int} : ext a (x ++ y) = ext (ext a x) y := List.foldl_append ..
theorem ext_snoc {a c : Int} {l : List Int} : ext a (l ++ [c]) = 32 * ext a l + c := by rw [ext_app]; rfl
theorem nm_app {x y : List Int} : nm (x ++ y) = ext (nm x) y := ext_app
theorem ext_nm : ∀ (l : List Int) (a : Int), ext a l = a * 32 ^ l.length + nm l
  | [], a => by simp [ext, nm]
  | c :: l, a => by
    have h1 := ext_nm l (32 * a + c)
    have h2 := ext_nm l (32 * 0 + c)
    have h3 : nm (c :: l) = ext (32 * 0 + c) l := rfl
    rw [h3, ext_cons, h1, h2, List.length_cons, Int.pow_succ]
    generalize (32 : Int) ^ l.length = P
    grind
def zL (l : List Int) : Prop := ∀ z ∈ l, (0 : Int) ≤ z ∧ z ≤ 25
theorem pw_pos : ∀ n : Nat, (0 : Int) < 32 ^ n
  | 0 => by decide
  | n + 1 => by
    have := pw_pos n
    rw [Int.pow_succ]
    omega
theorem nm_rr : ∀ {l : List Int}, zL l → 0 ≤ nm l ∧ nm l < 32 ^ l.length
  | [], _ => by simp [nm, ext]
  | c :: l, h => by
    have ih := nm_rr (l := l) (fun z hz => h z (List.mem_cons_of_mem _ hz))
    have hc := h c List.mem_cons_self
    have e : nm (c :: l) = ext (32 * 0 + c) l := rfl
    have hp := pw_pos l.length
    rw [e, ext_nm, List.length_cons, Int.pow_succ]
    generalize (32 : Int) ^ l.length = P at *
    have h1 : 0 ≤ c * P := Int.mul_nonneg hc.1 (by omega)
    have h2 : c * P ≤ 25 * P := Int.mul_le_mul_of_nonneg_right hc.2 (by omega)
    have e2 : (32 * 0 + c) * P = c * P := by rw [Int.mul_zero, Int.zero_add]
    rw [e2]
    omega
theorem nm_lt : ∀ {x y : List Int}, x.length = y.length → zL x → zL y → llt x y → nm x < nm y
  | [], y, _, _, _, h => by simp [llt] at h
  | a :: x, [], hl, _, _, h => by simp at hl
  | a :: x, b :: y, hl, hx, hy, h => by
    have hx' : zL x := fun z hz => hx z (List.mem_cons_of_mem _ hz)
    have hy' : zL y := fun z hz => hy z (List.mem_cons_of_mem _ hz)
    have hl' : x.length = y.length := by simpa using hl
    have e1 : nm (a :: x) = ext (32 * 0 + a) x := rfl
    have e2 : nm (b :: y) = ext (32 * 0 + b) y := rfl
    have r1 := nm_rr hx'
    have r2 := nm_rr hy'
    rw [e1, e2, ext_nm, ext_nm y, ← hl']
    rw [← hl'] at r2
    rcases h with h | ⟨h, g⟩
    · have hp := pw_pos x.length
      generalize (32 : Int) ^ x.length = P at *
      have h2 : (a + 1) * P ≤ b * P := Int.mul_le_mul_of_nonneg_right h (by omega)
      have e3 : (32 * 0 + a) * P = a * P := by rw [Int.mul_zero, Int.zero_add]
      have e4 : (32 * 0 + b) * P = b * P := by rw [Int.mul_zero, Int.zero_add]
      have e5 : (a + 1) * P = a * P + P := by rw [Int.add_mul, Int.one_mul]
      rw [e3, e4]
      omega
    · subst h
      have := nm_lt hl' hx' hy' g
      omega
theorem nm_eq {x y : List Int} (hl : x.length = y.length) (hx : zL x) (hy : zL y) : nm x = nm y ↔ x = y := by
  refine ⟨fun h => ?_, fun h => by rw [h]⟩
  rcases llt_tot hl with g | g | g
  · have := nm_lt hl hx hy g; omega
  · exact g
  · have := nm_lt hl.symm hy hx g; omega
theorem nm_llt {x y : List Int} (hl : x.length = y.length) (hx : zL x) (hy : zL y) : nm x < nm y ↔ llt x y := by
  refine ⟨fun h => ?_, nm_lt hl hx hy⟩
  rcases llt_tot hl with g | g | g
  · exact g
  · rw [g] at h; omega
  · have := nm_lt hl.symm hy hx g; omega
theorem nm_b {l : List Int} (h : zL l) (h10 : l.length ≤ 10) : 0 ≤ nm l ∧ nm l < 1125899906842624 := by
  have h1 := nm_rr h
  refine ⟨h1.1, Int.lt_of_lt_of_le h1.2 ?_⟩
  have : ∀ n, n ≤ 10 → (32 : Int) ^ n ≤ 1125899906842624 := by decide
  exact this _ h10
-- longs
def zJr (z : Int) : Prop := 0 ≤ z ∧ z < 1125899906842624
theorem jI {z : Int} (h : zJr z) : (Int64.ofInt z).toInt = z := by
  have := h.1
  have := h.2
  exact Int64.toInt_ofInt_of_le (by omega) (by omega)
theorem jX {z : Int} (h : zRr z) : (Int32.ofInt z).toInt64 = Int64.ofInt z := by
  apply Int64.toInt_inj.mp
  have h1 := h.1
  have h2 := h.2
  rw [Int32.toInt_toInt64, zToInt (by omega) (by omega), Int64.toInt_ofInt_of_le (by omega) (by omega)]
theorem jL {a z : Int} (h : zRr z) : 32 * Int64.ofInt a + (Int32.ofInt z).toInt64 = Int64.ofInt (32 * a + z) := by
  rw [jX h, Int64.ofInt_add, Int64.ofInt_mul]
  rfl
theorem jC {a b : Int} (ha : zJr a) (hb : zJr b) : (lg_cmp (Int64.ofInt a) (Int64.ofInt b)).toInt = if a < b then -1 else if a = b then 0 else 1 := by
  unfold lg_cmp
  simp only [gt_iff_lt, Int64.lt_iff_toInt_lt, ← Int64.toInt_inj, jI ha, jI hb]
  by_cases h1 : b < a
  · rw [if_pos h1, if_neg (by omega), if_neg (by omega)]; rfl
  · rw [if_neg h1]
    by_cases h2 : a = b
    · rw [if_pos h2, if_neg (by omega), if_pos h2]; rfl
    · rw [if_neg h2, if_pos (by omega)]; rfl
theorem j_amt : ∀ i : Nat, i < 10 → (((Int32.ofInt (5 * (i : Int))).toInt64 &&& 63).toBitVec.smod 64).toNat = 5 * i := by decide +kernel
theorem jS {a : Int} {i : Nat} (h : zJr a) (hi : i < 10) : Int64.ofInt a >>> ((Int32.ofInt (5 * (i : Int))).toInt64 &&& 63) = Int64.ofInt (a / 32 ^ i) := by
  apply Int64.toInt_inj.mp
  have e1 : (Int64.ofInt a >>> ((Int32.ofInt (5 * (i : Int))).toInt64 &&& 63)).toInt = (Int64.ofInt a).toInt >>> (5 * i) := by
    have e2 : (Int64.ofInt a >>> ((Int32.ofInt (5 * (i : Int))).toInt64 &&& 63)).toInt = (BitVec.sshiftRight' (Int64.ofInt a).toBitVec (((Int32.ofInt (5 * (i : Int))).toInt64 &&& 63).toBitVec.smod 64)).toInt := rfl
    rw [e2, BitVec.sshiftRight_eq', BitVec.toInt_sshiftRight, j_amt i hi]
    rfl
  have h1 := h.1
  have h2 := h.2
  have hp := pw_pos i
  have e3 : (2 : Int) ^ (5 * i) = 32 ^ i := by rw [Int.pow_mul]; rfl
  rw [e1, jI h, Int.shiftRight_eq_div_pow, show ((2 ^ (5 * i) : Nat) : Int) = 32 ^ i from by rw [← e3]; simp]
  have g1 : 0 ≤ a / 32 ^ i := Int.ediv_nonneg h1 (by omega)
  have g2 : a / 32 ^ i ≤ a := Int.ediv_le_self _ h1
  rw [jI ⟨g1, by omega⟩]
theorem jA {q : Int} (h : 0 ≤ q) : zand (Int64.ofInt q).toInt32.toInt 31 = q % 32 := by
  unfold zand
  rw [Int32.ofInt_toInt, Int64.toInt32_ofInt]
  obtain ⟨n, rfl⟩ := Int.eq_ofNat_of_zero_le h
  have e : (Int32.ofInt (n : Int) &&& Int32.ofInt 31).toBitVec.toNat = n % 32 := by
    rw [Int32.toBitVec_and, BitVec.toNat_and]
    have e1 : (Int32.ofInt (n : Int)).toBitVec.toNat = n % 2 ^ 32 := by
      show (BitVec.ofInt 32 (n : Int)).toNat = _
      rw [BitVec.ofInt_natCast, BitVec.toNat_ofNat]
    rw [e1, show (Int32.ofInt 31).toBitVec.toNat = 2 ^ 5 - 1 from rfl, Nat.and_two_pow_sub_one_eq_mod]
    omega
  rw [← Int32.toInt_toBitVec, BitVec.toInt_eq_toNat_of_lt (by omega), e]
  rfl
theorem nm_dig : ∀ {l : List Int}, zL l → ∀ i, i < l.length → nm l / 32 ^ (l.length - 1 - i) % 32 = l.getD i 0 := by
  intro l h i hi
  have e : l = l.take i ++ (l.getD i 0 :: l.drop (i + 1)) := by
    rw [List.getD_eq_getElem?_getD, List.getElem?_eq_getElem hi, Option.getD_some, ← List.drop_eq_getElem_cons hi, List.take_append_drop]
  have hd : zL (l.drop (i + 1)) := fun z hz => h z (List.mem_of_mem_drop hz)
  have hz : 0 ≤ l.getD i 0 ∧ l.getD i 0 ≤ 25 := by
    rw [List.getD_eq_getElem?_getD, List.getElem?_eq_getElem hi, Option.getD_some]
    exact h _ (List.getElem_mem hi)
  have hlen : (l.drop (i + 1)).length = l.length - 1 - i := by rw [List.length_drop]; omega
  have e2 : nm l = (32 * nm (l.take i) + l.getD i 0) * 32 ^ (l.length - 1 - i) + nm (l.drop (i + 1)) := by
    conv => lhs; rw [e]
    rw [nm_app, ext_cons, ext_nm, hlen]
  have r := nm_rr hd
  rw [hlen] at r
  have hp := pw_pos (l.length - 1 - i)
  rw [e2]
  generalize (32 : Int) ^ (l.length - 1 - i) = P at *
  generalize nm (l.drop (i + 1)) = m at *
  generalize nm (l.take i) = q at *
  generalize l.getD i 0 = z at *
  have e3 : ((32 * q + z) * P + m) / P = 32 * q + z := by
    rw [Int.add_comm, Int.add_mul_ediv_right _ _ (by omega), Int.ediv_eq_zero_of_lt r.1 r.2, Int.zero_add]
  rw [e3]
  omega
-- bits of a number of ways
theorem bit_ : ∀ p : Nat, p < 6 → ∀ m : Nat, m < 64 → zand (zshr (m : Int) (p : Int)) 1 = ((m / 2 ^ p % 2 : Nat) : Int) := by decide +kernel
theorem shl_ : ∀ p : Nat, p ≤ 6 → zshl 1 (p : Int) = ((2 ^ p : Nat) : Int) := by decide +kernel
/-- what 'low' answers -/
def lw (v n : Int) : Int := zrem (zand v 2147483647) n
theorem lw_r {v n : Int} (h0 : 0 < n) (h1 : n < 2147483648) : 0 ≤ lw v n ∧ lw v n < n := by
  unfold lw zrem
  have hx : 0 ≤ zand v 2147483647 := by
    unfold zand
    rw [← Int32.toInt_toBitVec]
    have e : (Int32.ofInt v &&& Int32.ofInt 2147483647).toBitVec.toNat < 2147483648 := by
      rw [Int32.toBitVec_and, BitVec.toNat_and, show (Int32.ofInt 2147483647).toBitVec.toNat = 2 ^ 31 - 1 from rfl, Nat.and_two_pow_sub_one_eq_mod]
      omega
    rw [BitVec.toInt_eq_toNat_of_lt (by omega)]
    omega
  have hx2 : zRr (zand v 2147483647) := ⟨by omega, by unfold zand; exact Int32.toInt_lt _⟩
  generalize zand v 2147483647 = y at *
  have ey : (Int32.ofInt y).toInt = y := zToInt hx2.1 hx2.2
  have en : (Int32.ofInt n).toInt = n := zToInt (by omega) h1
  have hy2 := hx2.2
  have q0 : 0 ≤ y / n := Int.ediv_nonneg hx (by omega)
  have q1 : y / n ≤ y := Int.ediv_le_self _ hx
  have ed : Int32.ofInt y / Int32.ofInt n = Int32.ofInt (y / n) := by
    apply Int32.toInt_inj.mp
    rw [Int32.toInt_div, ey, en, zToInt (by omega) (by omega), Int.tdiv_eq_ediv_of_nonneg hx, Int.bmod_eq_of_le (by omega) (by omega)]
  have hm := Int.emod_add_mul_ediv y n
  have m0 := Int.emod_nonneg y (show n ≠ 0 by omega)
  have m1 := Int.emod_lt_of_pos y h0
  have e2 : Int32.ofInt y - Int32.ofInt y / Int32.ofInt n * Int32.ofInt n = Int32.ofInt (y - y / n * n) := by
    rw [ed, Int32.ofInt_sub, Int32.ofInt_mul]
  have e3 : y - y / n * n = y % n := by
    rw [Int.mul_comm] 
    omega
  rw [e2, e3, zToInt (by omega) (by omega)]
  exact ⟨m0, m1⟩
