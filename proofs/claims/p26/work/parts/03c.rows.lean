-- one row an instruction, over the judgement zRn
section ZR
variable {lo d : Nat} {Rm : Room} {k : zY} {Fn : List Frame → Array Value → State → va_G → (Nat → ClassId) → State → Prop} {u : Nat × Nat} {pc : Nat} {ls : List (Option zV)} {st : List zV} {M : zM}
theorem zr_iload_n {n : Fin 4} {z : Int} (hd : decode (zYb k) pc = .ok (.iload_n n, 1)) (hl : zg ls n.val = some (some (.inl z))) (K : zRn lo d Rm k Fn u (pc + 1) ls (.inl z :: st) M) : zRn lo d Rm k Fn u pc ls st M := by
  intro p l e s m args below meth c D cA hc H locs lsA hH hS hL
  exact lv_iload_n hc.1 hc.2.1 hd rfl (zLs_at hL hl) (K p l e s m args below meth c D cA hc H locs lsA hH hS hL)
theorem zr_iload {n : Nat} {z : Int} (hd : decode (zYb k) pc = .ok (.iload n, 2)) (hl : zg ls n = some (some (.inl z))) (K : zRn lo d Rm k Fn u (pc + 2) ls (.inl z :: st) M) : zRn lo d Rm k Fn u pc ls st M := by
  intro p l e s m args below meth c D cA hc H locs lsA hH hS hL
  exact lv_iload hc.1 hc.2.1 hd (zLs_at hL hl) (K p l e s m args below meth c D cA hc H locs lsA hH hS hL)
theorem zr_lload_n {n : Fin 4} {z : Int64} (hd : decode (zYb k) pc = .ok (.lload_n n, 1)) (hl : zg ls n.val = some (some (.inr (.inr z)))) (K : zRn lo d Rm k Fn u (pc + 1) ls (.inr (.inr z) :: st) M) : zRn lo d Rm k Fn u pc ls st M := by
  intro p l e s m args below meth c D cA hc H locs lsA hH hS hL
  exact lv_lload_n hc.1 hc.2.1 hd rfl (zLs_at hL hl) (K p l e s m args below meth c D cA hc H locs lsA hH hS hL)
theorem zr_lload {n : Nat} {z : Int64} (hd : decode (zYb k) pc = .ok (.lload n, 2)) (hl : zg ls n = some (some (.inr (.inr z)))) (K : zRn lo d Rm k Fn u (pc + 2) ls (.inr (.inr z) :: st) M) : zRn lo d Rm k Fn u pc ls st M := by
  intro p l e s m args below meth c D cA hc H locs lsA hH hS hL
  exact lv_lload hc.1 hc.2.1 hd (zLs_at hL hl) (K p l e s m args below meth c D cA hc H locs lsA hH hS hL)
theorem zr_aload_n {n : Fin 4} {r : Option Nat} (hd : decode (zYb k) pc = .ok (.aload_n n, 1)) (hl : zg ls n.val = some (some (.inr (.inl r)))) (K : zRn lo d Rm k Fn u (pc + 1) ls (.inr (.inl r) :: st) M) : zRn lo d Rm k Fn u pc ls st M := by
  intro p l e s m args below meth c D cA hc H locs lsA hH hS hL
  cases r with
  | none => exact lv_aload_nN hc.1 hc.2.1 hd rfl (zLs_at hL hl) (K p l e s m args below meth c D cA hc H locs lsA hH hS hL)
  | some a => exact lv_aload_n hc.1 hc.2.1 hd rfl (zLs_at hL hl) (K p l e s m args below meth c D cA hc H locs lsA hH hS hL)
theorem zr_aload {n : Nat} {r : Option Nat} (hd : decode (zYb k) pc = .ok (.aload n, 2)) (hl : zg ls n = some (some (.inr (.inl r)))) (K : zRn lo d Rm k Fn u (pc + 2) ls (.inr (.inl r) :: st) M) : zRn lo d Rm k Fn u pc ls st M := by
  intro p l e s m args below meth c D cA hc H locs lsA hH hS hL
  cases r with
  | none => exact lv_aloadN hc.1 hc.2.1 hd (zLs_at hL hl) (K p l e s m args below meth c D cA hc H locs lsA hH hS hL)
  | some a => exact lv_aload hc.1 hc.2.1 hd (zLs_at hL hl) (K p l e s m args below meth c D cA hc H locs lsA hH hS hL)
theorem zr_istore_n {n : Fin 4} {z : Int} {w : Option zV} (hd : decode (zYb k) pc = .ok (.istore_n n, 1)) (hw : zg ls n.val = some w) (hk : zlk ls n.val) (K : zRn lo d Rm k Fn u (pc + 1) (zst ls n.val (some (.inl z))) st M) : zRn lo d Rm k Fn u pc ls (.inl z :: st) M := by
  intro p l e s m args below meth c D cA hc H locs lsA hH hS hL
  exact lv_istore_n hc.1 hc.2.1 hd rfl hL.2 (by rw [← hL.1]; exact zg_lt hw) rfl (fun lsB hB => K p l e s m args below meth c D cA hc H locs lsB hH hS (zLs_st1 (v := .inl z) hL hk hB))
theorem zr_istore {n : Nat} {z : Int} {w : Option zV} (hd : decode (zYb k) pc = .ok (.istore n, 2)) (hw : zg ls n = some w) (hk : zlk ls n) (K : zRn lo d Rm k Fn u (pc + 2) (zst ls n (some (.inl z))) st M) : zRn lo d Rm k Fn u pc ls (.inl z :: st) M := by
  intro p l e s m args below meth c D cA hc H locs lsA hH hS hL
  exact lv_istore hc.1 hc.2.1 hd hL.2 (by rw [← hL.1]; exact zg_lt hw) rfl (fun lsB hB => K p l e s m args below meth c D cA hc H locs lsB hH hS (zLs_st1 (v := .inl z) hL hk hB))
theorem zr_astore_n {n : Fin 4} {r : Option Nat} {w : Option zV} (hd : decode (zYb k) pc = .ok (.astore_n n, 1)) (hw : zg ls n.val = some w) (hk : zlk ls n.val) (K : zRn lo d Rm k Fn u (pc + 1) (zst ls n.val (some (.inr (.inl r)))) st M) : zRn lo d Rm k Fn u pc ls (.inr (.inl r) :: st) M := by
  intro p l e s m args below meth c D cA hc H locs lsA hH hS hL
  cases r with
  | none => exact lv_astore_nN hc.1 hc.2.1 hd rfl hL.2 (by rw [← hL.1]; exact zg_lt hw) rfl (fun lsB hB => K p l e s m args below meth c D cA hc H locs lsB hH hS (zLs_st1 (v := .inr (.inl none)) hL hk hB))
  | some a => exact lv_astore_n hc.1 hc.2.1 hd rfl hL.2 (by rw [← hL.1]; exact zg_lt hw) rfl (fun lsB hB => K p l e s m args below meth c D cA hc H locs lsB hH hS (zLs_st1 (v := .inr (.inl (some a))) hL hk hB))
theorem zr_astore {n : Nat} {r : Option Nat} {w : Option zV} (hd : decode (zYb k) pc = .ok (.astore n, 2)) (hw : zg ls n = some w) (hk : zlk ls n) (K : zRn lo d Rm k Fn u (pc + 2) (zst ls n (some (.inr (.inl r)))) st M) : zRn lo d Rm k Fn u pc ls (.inr (.inl r) :: st) M := by
  intro p l e s m args below meth c D cA hc H locs lsA hH hS hL
  cases r with
  | none => exact lv_astoreN hc.1 hc.2.1 hd hL.2 (by rw [← hL.1]; exact zg_lt hw) rfl (fun lsB hB => K p l e s m args below meth c D cA hc H locs lsB hH hS (zLs_st1 (v := .inr (.inl none)) hL hk hB))
  | some a => exact lv_astore hc.1 hc.2.1 hd hL.2 (by rw [← hL.1]; exact zg_lt hw) rfl (fun lsB hB => K p l e s m args below meth c D cA hc H locs lsB hH hS (zLs_st1 (v := .inr (.inl (some a))) hL hk hB))
theorem zr_lstore {n : Nat} {z : Int64} {w : Option zV} (hd : decode (zYb k) pc = .ok (.lstore n, 2)) (hw : zg ls (n + 1) = some w) (hk : zlk ls n) (K : zRn lo d Rm k Fn u (pc + 2) (zst (zst ls n (some (.inr (.inr z)))) (n + 1) none) st M) : zRn lo d Rm k Fn u pc ls (.inr (.inr z) :: st) M := by
  intro p l e s m args below meth c D cA hc H locs lsA hH hS hL
  exact lv_lstore hc.1 hc.2.1 hd hL.2 (by rw [← hL.1]; exact zg_lt hw) rfl (fun lsB hB => K p l e s m args below meth c D cA hc H locs lsB hH hS (zLs_st2 hL hk hB))
theorem zr_iinc {n : Nat} {z dz : Int} (hd : decode (zYb k) pc = .ok (.iinc n dz, 3)) (hw : zg ls n = some (some (.inl z))) (hk : zlk ls n) (K : zRn lo d Rm k Fn u (pc + 3) (zst ls n (some (.inl (z + dz)))) st M) : zRn lo d Rm k Fn u pc ls st M := by
  intro p l e s m args below meth c D cA hc H locs lsA hH hS hL
  obtain ⟨i, hi⟩ := List.getElem?_of_mem (zAs_mem.mpr ⟨n, .inl z, zg_mem hw, rfl⟩ : (0 + n, tv (.inl z)) ∈ zAs 0 ls)
  rw [Nat.zero_add] at hi
  exact lv_iinc (v := Int32.ofInt (z + dz)) hc.1 hc.2.1 hd hL.2 hi (by rw [Int32.ofInt_add]) (by rw [← hL.1]; exact zg_lt hw) rfl (fun lsB hB => K p l e s m args below meth c D cA hc H locs lsB hH hS (zLs_st1 (v := .inl (z + dz)) hL hk hB))
-- constants
theorem zr_iconst {n : Int} (hd : decode (zYb k) pc = .ok (.iconst n, 1)) (K : zRn lo d Rm k Fn u (pc + 1) ls (.inl n :: st) M) : zRn lo d Rm k Fn u pc ls st M := by
  intro p l e s m args below meth c D cA hc H locs lsA hH hS hL
  exact lv_iconst hc.1 hc.2.1 hd rfl (K p l e s m args below meth c D cA hc H locs lsA hH hS hL)
theorem zbi {n : Int} (h1 : -128 ≤ n) (h2 : n ≤ 127) : (Int8.ofInt n).toInt32 = Int32.ofInt n := by
  apply Int32.toInt_inj.mp
  rw [zToInt (by omega) (by omega), Int8.toInt_toInt32, Int8.toInt_ofInt_of_le (by omega) (by omega)]
theorem zsi {n : Int} (h1 : -32768 ≤ n) (h2 : n ≤ 32767) : (Int16.ofInt n).toInt32 = Int32.ofInt n := by
  apply Int32.toInt_inj.mp
  rw [zToInt (by omega) (by omega), Int16.toInt_toInt32, Int16.toInt_ofInt_of_le (by omega) (by omega)]
theorem zr_bipush {n : Int} (hd : decode (zYb k) pc = .ok (.bipush n, 2)) (h1 : -128 ≤ n) (h2 : n ≤ 127) (K : zRn lo d Rm k Fn u (pc + 2) ls (.inl n :: st) M) : zRn lo d Rm k Fn u pc ls st M := by
  intro p l e s m args below meth c D cA hc H locs lsA hH hS hL
  exact lv_bipush hc.1 hc.2.1 hd (zbi h1 h2) (K p l e s m args below meth c D cA hc H locs lsA hH hS hL)
theorem zr_sipush {n : Int} (hd : decode (zYb k) pc = .ok (.sipush n, 3)) (h1 : -32768 ≤ n) (h2 : n ≤ 32767) (K : zRn lo d Rm k Fn u (pc + 3) ls (.inl n :: st) M) : zRn lo d Rm k Fn u pc ls st M := by
  intro p l e s m args below meth c D cA hc H locs lsA hH hS hL
  exact lv_sipush hc.1 hc.2.1 hd (zsi h1 h2) (K p l e s m args below meth c D cA hc H locs lsA hH hS hL)
theorem zr_lconst {n : Fin 2} (hd : decode (zYb k) pc = .ok (.lconst n, 1)) (K : zRn lo d Rm k Fn u (pc + 1) ls (.inr (.inr (Int64.ofNat n.val)) :: st) M) : zRn lo d Rm k Fn u pc ls st M := by
  intro p l e s m args below meth c D cA hc H locs lsA hH hS hL
  exact lv_lconst hc.1 hc.2.1 hd rfl (K p l e s m args below meth c D cA hc H locs lsA hH hS hL)
theorem zr_null (hd : decode (zYb k) pc = .ok (.aconst_null, 1)) (K : zRn lo d Rm k Fn u (pc + 1) ls (.inr (.inl none) :: st) M) : zRn lo d Rm k Fn u pc ls st M := by
  intro p l e s m args below meth c D cA hc H locs lsA hH hS hL
  exact lv_null hc.1 hc.2.1 hd (K p l e s m args below meth c D cA hc H locs lsA hH hS hL)
theorem zr_ldc2 {i : Nat} {v : Int64} (hd : decode (zYb k) pc = .ok (.ldc2_w i, 3)) (hv : zLc (zYo k) i = some v) (K : zRn lo d Rm k Fn u (pc + 3) ls (.inr (.inr v) :: st) M) : zRn lo d Rm k Fn u pc ls st M := by
  intro p l e s m args below meth c D cA hc H locs lsA hH hS hL
  obtain ⟨hx, hb, hr, hml, hown, hlk, hnm, hts, hK, -⟩ := id hc
  simp only [zLc, Option.map_eq_some_iff] at hv
  obtain ⟨x, hx1, rfl⟩ := hv
  have hp := List.find?_some hx1
  simp only [beq_iff_eq] at hp
  have h2 := List.all_eq_true.mp zLc_ok x (List.mem_of_find?_eq_some hx1)
  rw [hp] at h2
  exact lv_ldc2 hx hb hown (hts _ (zWd_tw h2 rfl)) hd (K p l e s m args below meth c D cA hc H locs lsA hH hS hL)
theorem zr_ldc {i : Nat} {v : Int} (hd : decode (zYb k) pc = .ok (.ldc i, 2)) (hv : zIc (zYo k) i = some v) (K : zRn lo d Rm k Fn u (pc + 2) ls (.inl v :: st) M) : zRn lo d Rm k Fn u pc ls st M := by
  intro p l e s m args below meth c D cA hc H locs lsA hH hS hL
  obtain ⟨hx, hb, hr, hml, hown, hlk, hnm, hts, hK, -⟩ := id hc
  simp only [zIc, Option.map_eq_some_iff] at hv
  obtain ⟨x, hx1, rfl⟩ := hv
  have hp := List.find?_some hx1
  simp only [beq_iff_eq] at hp
  have h2 := List.all_eq_true.mp zIc_ok x (List.mem_of_find?_eq_some hx1)
  rw [hp] at h2
  have h := K p l e s m args below meth c D cA hc H locs lsA hH hS hL
  rw [List.map_cons, show tv (.inl x.2.1.toInt) = .int x.2.1 from by rw [tv, Int32.ofInt_toInt]] at h
  exact lv_ldc hx hb hown (hts _ (zWd_tw h2 rfl)) hd h
-- arithmetic
theorem zr_iadd {a b : Int} (hd : decode (zYb k) pc = .ok (.iadd, 1)) (K : zRn lo d Rm k Fn u (pc + 1) ls (.inl (a + b) :: st) M) : zRn lo d Rm k Fn u pc ls (.inl b :: .inl a :: st) M := by
  intro p l e s m args below meth c D cA hc H locs lsA hH hS hL
  refine lv_iadd hc.1 hc.2.1 hd ?_
  rw [← Int32.ofInt_add]
  exact K p l e s m args below meth c D cA hc H locs lsA hH hS hL
theorem zr_isub {a b : Int} (hd : decode (zYb k) pc = .ok (.isub, 1)) (K : zRn lo d Rm k Fn u (pc + 1) ls (.inl (a - b) :: st) M) : zRn lo d Rm k Fn u pc ls (.inl b :: .inl a :: st) M := by
  intro p l e s m args below meth c D cA hc H locs lsA hH hS hL
  refine lv_isub hc.1 hc.2.1 hd ?_
  rw [← Int32.ofInt_sub]
  exact K p l e s m args below meth c D cA hc H locs lsA hH hS hL
theorem zr_imul {a b : Int} (hd : decode (zYb k) pc = .ok (.imul, 1)) (K : zRn lo d Rm k Fn u (pc + 1) ls (.inl (a * b) :: st) M) : zRn lo d Rm k Fn u pc ls (.inl b :: .inl a :: st) M := by
  intro p l e s m args below meth c D cA hc H locs lsA hH hS hL
  refine lv_imul hc.1 hc.2.1 hd ?_
  rw [← Int32.ofInt_mul]
  exact K p l e s m args below meth c D cA hc H locs lsA hH hS hL
def zand (a b : Int) : Int := (Int32.ofInt a &&& Int32.ofInt b).toInt
def zshl (a b : Int) : Int := (Int32.ofInt a <<< (Int32.ofInt b &&& 31)).toInt
def zshr (a b : Int) : Int := (Int32.ofInt a >>> (Int32.ofInt b &&& 31)).toInt
theorem zr_iand {a b : Int} (hd : decode (zYb k) pc = .ok (.iand, 1)) (K : zRn lo d Rm k Fn u (pc + 1) ls (.inl (zand a b) :: st) M) : zRn lo d Rm k Fn u pc ls (.inl b :: .inl a :: st) M := by
  intro p l e s m args below meth c D cA hc H locs lsA hH hS hL
  have h := K p l e s m args below meth c D cA hc H locs lsA hH hS hL
  rw [List.map_cons, show tv (.inl (zand a b)) = .int (Int32.ofInt a &&& Int32.ofInt b) from by rw [tv, zand, Int32.ofInt_toInt]] at h
  exact lv_iand hc.1 hc.2.1 hd h
theorem zr_ishl {a b : Int} (hd : decode (zYb k) pc = .ok (.ishl, 1)) (K : zRn lo d Rm k Fn u (pc + 1) ls (.inl (zshl a b) :: st) M) : zRn lo d Rm k Fn u pc ls (.inl b :: .inl a :: st) M := by
  intro p l e s m args below meth c D cA hc H locs lsA hH hS hL
  have h := K p l e s m args below meth c D cA hc H locs lsA hH hS hL
  rw [List.map_cons, show tv (.inl (zshl a b)) = .int (Int32.ofInt a <<< (Int32.ofInt b &&& 31)) from by rw [tv, zshl, Int32.ofInt_toInt]] at h
  exact lv_ishl hc.1 hc.2.1 hd h
theorem zr_ishr {a b : Int} (hd : decode (zYb k) pc = .ok (.ishr, 1)) (K : zRn lo d Rm k Fn u (pc + 1) ls (.inl (zshr a b) :: st) M) : zRn lo d Rm k Fn u pc ls (.inl b :: .inl a :: st) M := by
  intro p l e s m args below meth c D cA hc H locs lsA hH hS hL
  have h := K p l e s m args below meth c D cA hc H locs lsA hH hS hL
  rw [List.map_cons, show tv (.inl (zshr a b)) = .int (Int32.ofInt a >>> (Int32.ofInt b &&& 31)) from by rw [tv, zshr, Int32.ofInt_toInt]] at h
  exact lv_ishr hc.1 hc.2.1 hd h
theorem zr_i2l {a : Int} (hd : decode (zYb k) pc = .ok (.i2l, 1)) (K : zRn lo d Rm k Fn u (pc + 1) ls (.inr (.inr (Int32.ofInt a).toInt64) :: st) M) : zRn lo d Rm k Fn u pc ls (.inl a :: st) M := by
  intro p l e s m args below meth c D cA hc H locs lsA hH hS hL
  exact lv_i2l hc.1 hc.2.1 hd rfl (K p l e s m args below meth c D cA hc H locs lsA hH hS hL)
theorem zr_l2i {x : Int64} (hd : decode (zYb k) pc = .ok (.l2i, 1)) (K : zRn lo d Rm k Fn u (pc + 1) ls (.inl x.toInt32.toInt :: st) M) : zRn lo d Rm k Fn u pc ls (.inr (.inr x) :: st) M := by
  intro p l e s m args below meth c D cA hc H locs lsA hH hS hL
  have h := K p l e s m args below meth c D cA hc H locs lsA hH hS hL
  rw [List.map_cons, show tv (.inl x.toInt32.toInt) = .int x.toInt32 from by rw [tv, Int32.ofInt_toInt]] at h
  exact lv_l2i hc.1 hc.2.1 hd rfl h
theorem zr_land {x y : Int64} (hd : decode (zYb k) pc = .ok (.land, 1)) (K : zRn lo d Rm k Fn u (pc + 1) ls (.inr (.inr (x &&& y)) :: st) M) : zRn lo d Rm k Fn u pc ls (.inr (.inr y) :: .inr (.inr x) :: st) M := by
  intro p l e s m args below meth c D cA hc H locs lsA hH hS hL
  exact lv_land hc.1 hc.2.1 hd (K p l e s m args below meth c D cA hc H locs lsA hH hS hL)
theorem zr_lor {x y : Int64} (hd : decode (zYb k) pc = .ok (.lor, 1)) (K : zRn lo d Rm k Fn u (pc + 1) ls (.inr (.inr (x ||| y)) :: st) M) : zRn lo d Rm k Fn u pc ls (.inr (.inr y) :: .inr (.inr x) :: st) M := by
  intro p l e s m args below meth c D cA hc H locs lsA hH hS hL
  exact lv_lor hc.1 hc.2.1 hd (K p l e s m args below meth c D cA hc H locs lsA hH hS hL)
def zrem (a b : Int) : Int := (Int32.ofInt a - Int32.ofInt a / Int32.ofInt b * Int32.ofInt b).toInt
theorem zr_irem {a b : Int} (hd : decode (zYb k) pc = .ok (.irem, 1)) (h0 : 0 < b) (h1 : b < 2147483648) (K : zRn lo d Rm k Fn u (pc + 1) ls (.inl (zrem a b) :: st) M) : zRn lo d Rm k Fn u pc ls (.inl b :: .inl a :: st) M := by
  intro p l e s m args below meth c D cA hc H locs lsA hH hS hL
  have h := K p l e s m args below meth c D cA hc H locs lsA hH hS hL
  rw [List.map_cons, show tv (.inl (zrem a b)) = .int (Int32.ofInt a - Int32.ofInt a / Int32.ofInt b * Int32.ofInt b) from by rw [tv, zrem, Int32.ofInt_toInt]] at h
  refine lv_irem hc.1 hc.2.1 hd (fun e => ?_) h
  have e2 : (Int32.ofInt b).toInt = 0 := by rw [e]; rfl
  rw [zToInt (by omega) h1] at e2
  omega
theorem zr_ladd {x y : Int64} (hd : decode (zYb k) pc = .ok (.ladd, 1)) (K : zRn lo d Rm k Fn u (pc + 1) ls (.inr (.inr (x + y)) :: st) M) : zRn lo d Rm k Fn u pc ls (.inr (.inr y) :: .inr (.inr x) :: st) M := by
  intro p l e s m args below meth c D cA hc H locs lsA hH hS hL
  exact lv_ladd hc.1 hc.2.1 hd (K p l e s m args below meth c D cA hc H locs lsA hH hS hL)
theorem zr_lmul {x y : Int64} (hd : decode (zYb k) pc = .ok (.lmul, 1)) (K : zRn lo d Rm k Fn u (pc + 1) ls (.inr (.inr (x * y)) :: st) M) : zRn lo d Rm k Fn u pc ls (.inr (.inr y) :: .inr (.inr x) :: st) M := by
  intro p l e s m args below meth c D cA hc H locs lsA hH hS hL
  exact lv_lmul hc.1 hc.2.1 hd (K p l e s m args below meth c D cA hc H locs lsA hH hS hL)
theorem zr_lshr {x : Int64} {b : Int} (hd : decode (zYb k) pc = .ok (.lshr, 1)) (K : zRn lo d Rm k Fn u (pc + 1) ls (.inr (.inr (x >>> ((Int32.ofInt b).toInt64 &&& 63))) :: st) M) : zRn lo d Rm k Fn u pc ls (.inl b :: .inr (.inr x) :: st) M := by
  intro p l e s m args below meth c D cA hc H locs lsA hH hS hL
  exact lv_lshr hc.1 hc.2.1 hd rfl (K p l e s m args below meth c D cA hc H locs lsA hH hS hL)
theorem zr_lushr {x : Int64} {b : Int} (hd : decode (zYb k) pc = .ok (.lushr, 1)) (K : zRn lo d Rm k Fn u (pc + 1) ls (.inr (.inr (x.toUInt64 >>> ((Int32.ofInt b).toInt64.toUInt64 &&& Int64.toUInt64 63)).toInt64) :: st) M) : zRn lo d Rm k Fn u pc ls (.inl b :: .inr (.inr x) :: st) M := by
  intro p l e s m args below meth c D cA hc H locs lsA hH hS hL
  exact lv_lushr hc.1 hc.2.1 hd rfl (K p l e s m args below meth c D cA hc H locs lsA hH hS hL)
theorem zr_lshl {x : Int64} {b : Int} (hd : decode (zYb k) pc = .ok (.lshl, 1)) (K : zRn lo d Rm k Fn u (pc + 1) ls (.inr (.inr (x <<< ((Int32.ofInt b).toInt64 &&& 63))) :: st) M) : zRn lo d Rm k Fn u pc ls (.inl b :: .inr (.inr x) :: st) M := by
  intro p l e s m args below meth c D cA hc H locs lsA hH hS hL
  exact lv_lshl hc.1 hc.2.1 hd rfl (K p l e s m args below meth c D cA hc H locs lsA hH hS hL)
theorem zr_lcmp {x y : Int64} (hd : decode (zYb k) pc = .ok (.lcmp, 1)) (K : zRn lo d Rm k Fn u (pc + 1) ls (.inl (lg_cmp x y).toInt :: st) M) : zRn lo d Rm k Fn u pc ls (.inr (.inr y) :: .inr (.inr x) :: st) M := by
  intro p l e s m args below meth c D cA hc H locs lsA hH hS hL
  have h := K p l e s m args below meth c D cA hc H locs lsA hH hS hL
  rw [List.map_cons, show tv (.inl (lg_cmp x y).toInt) = .int (lg_cmp x y) from by rw [tv, Int32.ofInt_toInt]] at h
  exact W.lcmp hc.1 hc.2.1 hd h
-- the stack
theorem zr_dup {v : zV} (hd : decode (zYb k) pc = .ok (.dup, 1)) (hv : ∀ x, v ≠ .inr (.inr x)) (K : zRn lo d Rm k Fn u (pc + 1) ls (v :: v :: st) M) : zRn lo d Rm k Fn u pc ls (v :: st) M := by
  intro p l e s m args below meth c D cA hc H locs lsA hH hS hL
  refine lv_dup hc.1 hc.2.1 hd ?_ (K p l e s m args below meth c D cA hc H locs lsA hH hS hL)
  match v, hv with
  | .inl _, _ => rfl
  | .inr (.inl none), _ => rfl
  | .inr (.inl (some _)), _ => rfl
  | .inr (.inr x), hv => exact absurd rfl (hv x)
theorem zr_dup2 {a : Nat} {v : Int} (hd : decode (zYb k) pc = .ok (.dup2, 1)) (K : zRn lo d Rm k Fn u (pc + 1) ls (.inl v :: .inr (.inl (some a)) :: .inl v :: .inr (.inl (some a)) :: st) M) : zRn lo d Rm k Fn u pc ls (.inl v :: .inr (.inl (some a)) :: st) M := by
  intro p l e s m args below meth c D cA hc H locs lsA hH hS hL
  exact lv_dup2_11 hc.1 hc.2.1 hd rfl rfl (K p l e s m args below meth c D cA hc H locs lsA hH hS hL)
theorem zr_pop {v : Int} (hd : decode (zYb k) pc = .ok (.pop, 1)) (K : zRn lo d Rm k Fn u (pc + 1) ls st M) : zRn lo d Rm k Fn u pc ls (.inl v :: st) M := by
  intro p l e s m args below meth c D cA hc H locs lsA hH hS hL
  exact lv_pop hc.1 hc.2.1 hd rfl (K p l e s m args below meth c D cA hc H locs lsA hH hS hL)
-- jumps
theorem ztg {pc : Nat} {off : Int} (h : 0 ≤ (pc : Int) + off) : (pc : Int) + off = ((((pc : Int) + off).toNat : Nat) : Int) := by omega
theorem zr_goto {off : Int} (hd : decode (zYb k) pc = .ok (.goto off, 3)) (h0 : 0 ≤ (pc : Int) + off) (K : zRn lo d Rm k Fn u (((pc : Int) + off).toNat) ls st M) : zRn lo d Rm k Fn u pc ls st M := by
  intro p l e s m args below meth c D cA hc H locs lsA hH hS hL
  exact lv_goto hc.1 hc.2.1 hd (ztg h0) (K p l e s m args below meth c D cA hc H locs lsA hH hS hL)
def zCd (c : Jvm.ClassFile.Cond) (a b : Int) : Prop := match c with
  | .eq => a = b
  | .ne => ¬ a = b
  | .lt => a < b
  | .ge => b ≤ a
  | .gt => b < a
  | .le => a ≤ b
def zRr (z : Int) : Prop := -2147483648 ≤ z ∧ z < 2147483648
theorem zcEq {a b : Int} (ha : zRr a) (hb : zRr b) : Int32.ofInt a = Int32.ofInt b ↔ a = b := by
  rw [← Int32.toInt_inj, zToInt ha.1 ha.2, zToInt hb.1 hb.2]
theorem zcLt {a b : Int} (ha : zRr a) (hb : zRr b) : Int32.ofInt a < Int32.ofInt b ↔ a < b := by
  rw [Int32.lt_iff_toInt_lt, zToInt ha.1 ha.2, zToInt hb.1 hb.2]
theorem zcLe {a b : Int} (ha : zRr a) (hb : zRr b) : Int32.ofInt a ≤ Int32.ofInt b ↔ a ≤ b := by
  rw [Int32.le_iff_toInt_le, zToInt ha.1 ha.2, zToInt hb.1 hb.2]
set_option maxHeartbeats 4000000 in
theorem zr_icmp {cd : Jvm.ClassFile.Cond} {off : Int} {a b : Int} (hd : decode (zYb k) pc = .ok (.if_icmp cd off, 3)) (h0 : 0 ≤ (pc : Int) + off) (ha : zRr a) (hb : zRr b) (Kt : zCd cd a b → zRn lo d Rm k Fn u (((pc : Int) + off).toNat) ls st M) (Kf : ¬ zCd cd a b → zRn lo d Rm k Fn u (pc + 3) ls st M) : zRn lo d Rm k Fn u pc ls (.inl b :: .inl a :: st) M := by
  intro p l e s m args below meth c D cA hc H locs lsA hH hS hL
  have Kt' := fun h => Kt h p l e s m args below meth c D cA hc H locs lsA hH hS hL
  have Kf' := fun h => Kf h p l e s m args below meth c D cA hc H locs lsA hH hS hL
  cases cd with
  | eq => exact lv_icmp_eq hc.1 hc.2.1 hd (ztg h0) (fun h => Kt' ((zcEq ha hb).mp h)) (fun h => Kf' (fun h2 => h ((zcEq ha hb).mpr h2)))
  | ne => exact lv_icmp_ne hc.1 hc.2.1 hd (ztg h0) (fun h => Kt' (fun h2 => h ((zcEq ha hb).mpr h2))) (fun h => Kf' (fun h2 => h2 ((zcEq ha hb).mp h)))
  | lt => exact lv_icmp_lt hc.1 hc.2.1 hd (ztg h0) (fun h => Kt' ((zcLt ha hb).mp h)) (fun h => Kf' (fun h2 => h ((zcLt ha hb).mpr h2)))
  | ge => exact lv_icmp_ge hc.1 hc.2.1 hd (ztg h0) (fun h => Kt' ((zcLe hb ha).mp h)) (fun h => Kf' (fun h2 => h ((zcLe hb ha).mpr h2)))
  | gt => exact lv_icmp_gt hc.1 hc.2.1 hd (ztg h0) (fun h => Kt' ((zcLt hb ha).mp h)) (fun h => Kf' (fun h2 => h ((zcLt hb ha).mpr h2)))
  | le => exact lv_icmp_le hc.1 hc.2.1 hd (ztg h0) (fun h => Kt' ((zcLe ha hb).mp h)) (fun h => Kf' (fun h2 => h ((zcLe ha hb).mpr h2)))
theorem z0r : zRr 0 := ⟨by decide, by decide⟩
set_option maxHeartbeats 4000000 in
theorem zr_ifz {cd : Jvm.ClassFile.Cond} {off : Int} {a : Int} (hd : decode (zYb k) pc = .ok (.ifCond cd off, 3)) (h0 : 0 ≤ (pc : Int) + off) (ha : zRr a) (Kt : zCd cd a 0 → zRn lo d Rm k Fn u (((pc : Int) + off).toNat) ls st M) (Kf : ¬ zCd cd a 0 → zRn lo d Rm k Fn u (pc + 3) ls st M) : zRn lo d Rm k Fn u pc ls (.inl a :: st) M := by
  intro p l e s m args below meth c D cA hc H locs lsA hH hS hL
  have Kt' := fun h => Kt h p l e s m args below meth c D cA hc H locs lsA hH hS hL
  have Kf' := fun h => Kf h p l e s m args below meth c D cA hc H locs lsA hH hS hL
  have e0 : Int32.ofInt 0 = 0 := rfl
  cases cd with
  | eq => exact lv_if_eq hc.1 hc.2.1 hd (ztg h0) (fun h => Kt' ((zcEq ha z0r).mp (h.trans e0.symm))) (fun h => Kf' (fun h2 => h ((zcEq ha z0r).mpr h2)))
  | ne => exact lv_if_ne hc.1 hc.2.1 hd (ztg h0) (fun h => Kt' (fun h2 => h ((zcEq ha z0r).mpr h2))) (fun h => Kf' (fun h2 => h2 ((zcEq ha z0r).mp (h.trans e0.symm))))
  | lt => exact lv_if_lt hc.1 hc.2.1 hd (ztg h0) (fun h => Kt' ((zcLt ha z0r).mp h)) (fun h => Kf' (fun h2 => h ((zcLt ha z0r).mpr h2)))
  | ge => exact lv_if_ge hc.1 hc.2.1 hd (ztg h0) (fun h => Kt' ((zcLe z0r ha).mp h)) (fun h => Kf' (fun h2 => h ((zcLe z0r ha).mpr h2)))
  | gt => exact lv_if_gt hc.1 hc.2.1 hd (ztg h0) (fun h => Kt' ((zcLt z0r ha).mp h)) (fun h => Kf' (fun h2 => h ((zcLt z0r ha).mpr h2)))
  | le => exact lv_if_le hc.1 hc.2.1 hd (ztg h0) (fun h => Kt' ((zcLe ha z0r).mp h)) (fun h => Kf' (fun h2 => h ((zcLe ha z0r).mpr h2)))
theorem zr_ifnull {off : Int} {r : Option Nat} (hd : decode (zYb k) pc = .ok (.ifnull off, 3)) (h0 : 0 ≤ (pc : Int) + off) (Kt : r = none → zRn lo d Rm k Fn u (((pc : Int) + off).toNat) ls st M) (Kf : r ≠ none → zRn lo d Rm k Fn u (pc + 3) ls st M) : zRn lo d Rm k Fn u pc ls (.inr (.inl r) :: st) M := by
  intro p l e s m args below meth c D cA hc H locs lsA hH hS hL
  cases r with
  | none => exact lv_ifnullN hc.1 hc.2.1 hd (ztg h0) (Kt rfl p l e s m args below meth c D cA hc H locs lsA hH hS hL)
  | some a => exact lv_ifnull hc.1 hc.2.1 hd (Kf (by simp) p l e s m args below meth c D cA hc H locs lsA hH hS hL)
theorem zr_ifnonnull {off : Int} {r : Option Nat} (hd : decode (zYb k) pc = .ok (.ifnonnull off, 3)) (h0 : 0 ≤ (pc : Int) + off) (Kt : r ≠ none → zRn lo d Rm k Fn u (((pc : Int) + off).toNat) ls st M) (Kf : r = none → zRn lo d Rm k Fn u (pc + 3) ls st M) : zRn lo d Rm k Fn u pc ls (.inr (.inl r) :: st) M := by
  intro p l e s m args below meth c D cA hc H locs lsA hH hS hL
  cases r with
  | none => exact lv_ifnonnullN hc.1 hc.2.1 hd (Kf rfl p l e s m args below meth c D cA hc H locs lsA hH hS hL)
  | some a => exact lv_ifnonnull hc.1 hc.2.1 hd (ztg h0) (Kt (by simp) p l e s m args below meth c D cA hc H locs lsA hH hS hL)
/-- a switch's goes: each value that it names, then the rest -/
def zSw (pc : Nat) (x : Int) (K : Nat → Prop) : List Int → Int → Prop
  | [], _ => True
  | o :: r, lo => (x = lo → 0 ≤ (pc : Int) + o ∧ K ((pc : Int) + o).toNat) ∧ zSw pc x K r (lo + 1)
theorem zSw_at {pc : Nat} {x : Int} {K : Nat → Prop} : ∀ {l : List Int} {lo : Int}, zSw pc x K l lo → lo ≤ x → x < lo + l.length → ∃ o, l[(x - lo).toNat]? = some o ∧ 0 ≤ (pc : Int) + o ∧ K ((pc : Int) + o).toNat
  | [], lo, _, h1, h2 => by simp at h2; omega
  | o :: r, lo, h, h1, h2 => by
    by_cases hx : x = lo
    · obtain ⟨g1, g2⟩ := h.1 hx
      exact ⟨o, by rw [show (x - lo).toNat = 0 by omega]; rfl, g1, g2⟩
    · obtain ⟨o2, g0, g1, g2⟩ := zSw_at h.2 (by omega) (by simp at h2; omega)
      refine ⟨o2, ?_, g1, g2⟩
      rw [show (x - lo).toNat = (x - (lo + 1)).toNat + 1 by omega]
      exact g0
theorem zr_tsw {dflt lo' hi : Int} {offs : Array Int} {len : Nat} {x : Int} (hd : decode (zYb k) pc = .ok (.tableswitch dflt lo' hi offs, len)) (hx : zRr x) (hh : hi + 1 = lo' + offs.toList.length) (h0 : 0 ≤ (pc : Int) + dflt)
    (K1 : zSw pc x (fun pc' => zRn lo d Rm k Fn u pc' ls st M) offs.toList lo') (K2 : x < lo' ∨ hi < x → zRn lo d Rm k Fn u (((pc : Int) + dflt).toNat) ls st M) : zRn lo d Rm k Fn u pc ls (.inl x :: st) M := by
  intro p l e s m args below meth c D cA hc H locs lsA hH hS hL
  have ex : (Int32.ofInt x).toInt = x := zToInt hx.1 hx.2
  by_cases hin : x < lo' ∨ hi < x
  · exact lv_tableOut hc.1 hc.2.1 hd (by rw [ex]; exact hin) (ztg h0) (K2 hin p l e s m args below meth c D cA hc H locs lsA hH hS hL)
  · obtain ⟨o, g0, g1, g2⟩ := zSw_at K1 (by omega) (by omega)
    exact lv_tableIn hc.1 hc.2.1 hd (by rw [ex]; omega) (by rw [ex]; omega) (by rw [ex, ← Array.getElem?_toList]; exact g0) (ztg g1) (g2 p l e s m args below meth c D cA hc H locs lsA hH hS hL)
end ZR
