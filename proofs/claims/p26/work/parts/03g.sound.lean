-- the step is sound
theorem zwi_e {x : Option (Option zV)} {K : Int → Prop} (h : zwi x K) : ∃ z, x = some (some (.inl z)) ∧ K z := by
  match x, h with
  | some (some (.inl z)), h => exact ⟨z, rfl, h⟩
theorem zwr_e {x : Option (Option zV)} {K : Option Nat → Prop} (h : zwr x K) : ∃ z, x = some (some (.inr (.inl z))) ∧ K z := by
  match x, h with
  | some (some (.inr (.inl z))), h => exact ⟨z, rfl, h⟩
theorem zwl_e {x : Option (Option zV)} {K : Int64 → Prop} (h : zwl x K) : ∃ z, x = some (some (.inr (.inr z))) ∧ K z := by
  match x, h with
  | some (some (.inr (.inr z))), h => exact ⟨z, rfl, h⟩
theorem zws_e {x : Option (Option zV)} {P : Prop} (h : zws x P) : ∃ w, x = some w ∧ P := by
  match x, h with
  | some w, h => exact ⟨w, rfl, h⟩
theorem zlq_e {ls : List (Option zV)} {k : Nat} {P : Prop} (h : zlq ls k P) : zlk ls k ∧ P := by
  match k, h with
  | 0, h => exact ⟨trivial, h⟩
  | k + 1, h =>
    have e : ∀ y, zg ls k = y → zlk ls (k + 1) ∧ P := by
      intro y hy
      simp only [zlq, hy] at h
      simp only [zlk, hy]
      match y, h with
      | none, h => exact ⟨trivial, h⟩
      | some none, h => exact ⟨trivial, h⟩
      | some (some (.inl _)), h => exact ⟨trivial, h⟩
      | some (some (.inr (.inl _))), h => exact ⟨trivial, h⟩
    exact e _ rfl
theorem zpi_e {st : List zV} {K : Int → List zV → Prop} (h : zpi st K) : ∃ a r, st = .inl a :: r ∧ K a r := by
  match st, h with
  | .inl a :: r, h => exact ⟨a, r, rfl, h⟩
theorem zpr_e {st : List zV} {K : Option Nat → List zV → Prop} (h : zpr st K) : ∃ a r, st = .inr (.inl a) :: r ∧ K a r := by
  match st, h with
  | .inr (.inl a) :: r, h => exact ⟨a, r, rfl, h⟩
theorem zpl_e {st : List zV} {K : Int64 → List zV → Prop} (h : zpl st K) : ∃ a r, st = .inr (.inr a) :: r ∧ K a r := by
  match st, h with
  | .inr (.inr a) :: r, h => exact ⟨a, r, rfl, h⟩
theorem zps_e {r : Option Nat} {K : Nat → Prop} (h : zps r K) : ∃ a, r = some a ∧ K a := by
  match r, h with
  | some a, h => exact ⟨a, rfl, h⟩
theorem zfl_e {x : Option (Nat × Nat × Nat)} {K : Nat → Nat → Nat → Prop} (h : zfl x K) : ∃ a b c, x = some (a, b, c) ∧ K a b c := by
  match x, h with
  | some (a, b, c), h => exact ⟨a, b, c, rfl, h⟩
theorem zob_e {c : Option zC} {ci : Nat} {K : List zV → Prop} (h : zob c ci K) : ∃ fs, c = some (.inl (ci, fs)) ∧ K fs := by
  match c, h with
  | some (.inl (cj, fs)), g => obtain ⟨e, g⟩ := g; subst e; exact ⟨fs, rfl, g⟩
theorem zgv_e {x : Option zV} {K : zV → Prop} (h : zgv x K) : ∃ v, x = some v ∧ K v := by
  match x, h with
  | some v, h => exact ⟨v, rfl, h⟩
theorem zar_e {c : Option zC} {t : Nat} {i : Int} {K : Nat → (Nat → Int) → Prop} (h : zar c t i K) : ∃ n f, c = some (.inr (t, n, .inl f)) ∧ 0 ≤ i ∧ i < (n : Int) ∧ n < 2147483648 ∧ K n f := by
  match c, h with
  | some (.inr (s, n, .inl f)), g => obtain ⟨e, g⟩ := g; subst e; exact ⟨n, f, rfl, g⟩
theorem zqr_e {c : Option zC} {i : Int} {K : Nat → Nat → (Nat → Option Nat) → Prop} (h : zqr c i K) : ∃ t n f, c = some (.inr (t, n, .inr f)) ∧ (t = 2 ∨ t = 3) ∧ 0 ≤ i ∧ i < (n : Int) ∧ n < 2147483648 ∧ K t n f := by
  match c, h with
  | some (.inr (t, n, .inr f)), h => exact ⟨t, n, f, rfl, h⟩
theorem zln_e {c : Option zC} {K : Nat → Prop} (h : zln c K) : ∃ t n f, c = some (.inr (t, n, f)) ∧ t < 4 ∧ K n := by
  match c, h with
  | some (.inr (t, n, f)), h => exact ⟨t, n, f, rfl, h⟩
theorem znx_e {x : Option Nat} {K : Nat → Prop} (h : znx x K) : ∃ a, x = some a ∧ K a := by
  match x, h with
  | some a, h => exact ⟨a, rfl, h⟩
theorem zlc_e {x : Option Int64} {K : Int64 → Prop} (h : zlc x K) : ∃ a, x = some a ∧ K a := by
  match x, h with
  | some a, h => exact ⟨a, rfl, h⟩
theorem zcr_e {x : Option zCR} {kd : Nat} {K : zY → Nat → Nat → Nat → Prop} {E : Prop} (h : zcr x kd K E) : (∃ y n mc ms, x = some (kd, y, n, mc, ms) ∧ K y n mc ms) ∨ E := by
  match x, h with
  | some (kd', y, n, mc, ms), g => obtain ⟨e, g⟩ := g; subst e; exact Or.inl ⟨y, n, mc, ms, rfl, g⟩
  | none, h => exact Or.inr h
theorem zsp_e : ∀ {n : Nat} {acc st : List zV} {K : List zV → List zV → Prop}, zsp n acc st K → ∃ as r, st = as.reverse ++ r ∧ as.length = n ∧ K (as ++ acc) r
  | 0, acc, st, K, h => ⟨[], st, rfl, rfl, h⟩
  | n + 1, acc, v :: st, K, h => by
    obtain ⟨as, r, h1, h2, h3⟩ := zsp_e (n := n) (acc := v :: acc) (st := st) h
    exact ⟨as ++ [v], r, by rw [h1]; simp, by simp [h2], by simpa using h3⟩
theorem zdp_e {d : Nat} {K : Nat → Prop} (h : zdp d K) : ∃ d', d = d' + 1 ∧ K d' := by
  match d, h with
  | d + 1, h => exact ⟨d, rfl, h⟩
theorem zdu_e {v : zV} {P : Prop} (h : zdu v P) : (∀ x, v ≠ .inr (.inr x)) ∧ P := by
  match v, h with
  | .inl _, h => exact ⟨fun x e => (by cases e), h⟩
  | .inr (.inl _), h => exact ⟨fun x e => (by cases e), h⟩
theorem zat_e {t : ArrayType} {K : Nat → Prop} (h : zat t K) : ∃ n, ((t = .int ∧ n = 0) ∨ (t = .boolean ∧ n = 1) ∨ (t = .long ∧ n = 4)) ∧ K n := by
  match t, h with
  | .int, h => exact ⟨0, Or.inl ⟨rfl, rfl⟩, h⟩
  | .boolean, h => exact ⟨1, Or.inr (Or.inl ⟨rfl, rfl⟩), h⟩
  | .long, h => exact ⟨4, Or.inr (Or.inr ⟨rfl, rfl⟩), h⟩
theorem zic_e {x : Option Int} {K : Int → Prop} (h : zic x K) : ∃ a, x = some a ∧ K a := by
  match x, h with
  | some a, h => exact ⟨a, rfl, h⟩
theorem zrl_e {r : Option FieldType} {P : Prop} (h : zrl r P) : r = some .long ∧ P := by
  match r, h with
  | some .long, h => exact ⟨rfl, h⟩
theorem zmt_e {st : List zV} {P : Prop} (h : zmt st P) : st = [] ∧ P := by
  match st, h with
  | [], h => exact ⟨rfl, h⟩
theorem zrv_e {r : Option FieldType} {P : Prop} (h : zrv r P) : r = none ∧ P := by
  match r, h with
  | none, h => exact ⟨rfl, h⟩
theorem zro_e {r : Option FieldType} {P : Prop} (h : zro r P) : ∃ C, r = some (.object C) ∧ P := by
  match r, h with
  | some (.object C), h => exact ⟨C, rfl, h⟩
theorem zrt_e {r : Option FieldType} {P Q : Prop} (h : zrt r P Q) : (r = some .int ∧ P) ∨ (r = some .boolean ∧ Q) := by
  match r, h with
  | some .int, h => exact Or.inl ⟨rfl, h⟩
  | some .boolean, h => exact Or.inr ⟨rfl, h⟩
theorem zSw_w {pc : Nat} {x : Int} {K K' : Nat → Prop} (hK : ∀ t, K t → K' t) : ∀ {l : List Int} {lo : Int}, zSw pc x K l lo → zSw pc x K' l lo
  | [], _, _ => trivial
  | _ :: _, _, h => ⟨fun e => ⟨(h.1 e).1, hK _ (h.1 e).2⟩, zSw_w hK h.2⟩
set_option maxHeartbeats 4000000 in
theorem zS_ok {lo d : Nat} {Rm : Room} {k : zY} {Fn : List Frame → Array Value → State → va_G → (Nat → ClassId) → State → Prop} {i : Instr} {len : Nat} {u : Nat × Nat} {pc : Nat} {ls : List (Option zV)} {st : List zV} {M : zM} {Rt : Option zV → Nat × Nat → zM → Prop} {KK KC : Nat × Nat → Nat → List (Option zV) → List zV → zM → Prop} (hC : ∀ u' pc' ls' st' M', KC u' pc' ls' st' M' → zRn lo d Rm k Fn u' pc' ls' st' M') (hK : ∀ u' pc' ls' st' M', KK u' pc' ls' st' M' → zRn lo d Rm k Fn u' pc' ls' st' M')
    (hI : ∀ z, decode (zYb k) pc = .ok (.ireturn, 1) → zYr k = some .int → Rt (some (.inl z)) u M → zRn lo d Rm k Fn u pc ls [.inl z] M)
    (hZ : ∀ z, decode (zYb k) pc = .ok (.ireturn, 1) → zYr k = some .boolean → (z = 0 ∨ z = 1) → Rt (some (.inl z)) u M → zRn lo d Rm k Fn u pc ls [.inl z] M)
    (hA : ∀ r C, decode (zYb k) pc = .ok (.areturn, 1) → zYr k = some (.object C) → Rt (some (.inr (.inl r))) u M → zRn lo d Rm k Fn u pc ls [.inr (.inl r)] M)
    (hV : decode (zYb k) pc = .ok (.return_, 1) → zYr k = none → Rt none u M → zRn lo d Rm k Fn u pc ls [] M)
    (hJ : ∀ z, decode (zYb k) pc = .ok (.lreturn, 1) → zYr k = some .long → Rt (some (.inr (.inr z))) u M → zRn lo d Rm k Fn u pc ls [.inr (.inr z)] M)
    (hd : decode (zYb k) pc = .ok (i, len)) (h : zS lo d Rm.cells Rm.slots k i len u pc ls st M KK KC Rt) : zRn lo d Rm k Fn u pc ls st M := by
  cases i
  case iload_n n => obtain ⟨el, h0⟩ := h; subst el; obtain ⟨z, e, h1⟩ := zwi_e h0; exact zr_iload_n hd e (hK _ _ _ _ _ h1)
  case iload n => obtain ⟨el, h0⟩ := h; subst el; obtain ⟨z, e, h1⟩ := zwi_e h0; exact zr_iload hd e (hK _ _ _ _ _ h1)
  case aload_n n => obtain ⟨el, h0⟩ := h; subst el; obtain ⟨z, e, h1⟩ := zwr_e h0; exact zr_aload_n hd e (hK _ _ _ _ _ h1)
  case aload n => obtain ⟨el, h0⟩ := h; subst el; obtain ⟨z, e, h1⟩ := zwr_e h0; exact zr_aload hd e (hK _ _ _ _ _ h1)
  case lload_n n => obtain ⟨el, h0⟩ := h; subst el; obtain ⟨z, e, h1⟩ := zwl_e h0; exact zr_lload_n hd e (hK _ _ _ _ _ h1)
  case lload n => obtain ⟨el, h0⟩ := h; subst el; obtain ⟨z, e, h1⟩ := zwl_e h0; exact zr_lload hd e (hK _ _ _ _ _ h1)
  case istore_n n => obtain ⟨el, h0⟩ := h; subst el; obtain ⟨z, r1, rfl, h1⟩ := zpi_e h0; obtain ⟨w, e, h2⟩ := zws_e h1; obtain ⟨g, h3⟩ := zlq_e h2; exact zr_istore_n hd e g (hK _ _ _ _ _ h3)
  case istore n => obtain ⟨el, h0⟩ := h; subst el; obtain ⟨z, r1, rfl, h1⟩ := zpi_e h0; obtain ⟨w, e, h2⟩ := zws_e h1; obtain ⟨g, h3⟩ := zlq_e h2; exact zr_istore hd e g (hK _ _ _ _ _ h3)
  case astore_n n => obtain ⟨el, h0⟩ := h; subst el; obtain ⟨z, r1, rfl, h1⟩ := zpr_e h0; obtain ⟨w, e, h2⟩ := zws_e h1; obtain ⟨g, h3⟩ := zlq_e h2; exact zr_astore_n hd e g (hK _ _ _ _ _ h3)
  case astore n => obtain ⟨el, h0⟩ := h; subst el; obtain ⟨z, r1, rfl, h1⟩ := zpr_e h0; obtain ⟨w, e, h2⟩ := zws_e h1; obtain ⟨g, h3⟩ := zlq_e h2; exact zr_astore hd e g (hK _ _ _ _ _ h3)
  case lstore n => obtain ⟨el, h0⟩ := h; subst el; obtain ⟨z, r1, rfl, h1⟩ := zpl_e h0; obtain ⟨w, e, h2⟩ := zws_e h1; obtain ⟨g, h3⟩ := zlq_e h2; exact zr_lstore hd e g (hK _ _ _ _ _ h3)
  case iinc n dz => obtain ⟨el, h0⟩ := h; subst el; obtain ⟨z, e, h1⟩ := zwi_e h0; obtain ⟨g, h2⟩ := zlq_e h1; exact zr_iinc hd e g (hK _ _ _ _ _ h2)
  case iconst n => obtain ⟨el, h0⟩ := h; subst el; exact zr_iconst hd (hK _ _ _ _ _ h0)
  case bipush n => obtain ⟨el, h0⟩ := h; subst el; obtain ⟨b1, b2, h1⟩ := h0; exact zr_bipush hd b1 b2 (hK _ _ _ _ _ h1)
  case sipush n => obtain ⟨el, h0⟩ := h; subst el; obtain ⟨b1, b2, h1⟩ := h0; exact zr_sipush hd b1 b2 (hK _ _ _ _ _ h1)
  case lconst n => obtain ⟨el, h0⟩ := h; subst el; exact zr_lconst hd (hK _ _ _ _ _ h0)
  case aconst_null => obtain ⟨el, h0⟩ := h; subst el; exact zr_null hd (hK _ _ _ _ _ h0)
  case ldc2_w i => obtain ⟨el, h0⟩ := h; subst el; obtain ⟨v, e, h1⟩ := zlc_e h0; exact zr_ldc2 hd e (hK _ _ _ _ _ h1)
  case ldc i => obtain ⟨el, h0⟩ := h; subst el; obtain ⟨v, e, h1⟩ := zic_e h0; exact zr_ldc hd e (hK _ _ _ _ _ h1)
  case irem => obtain ⟨el, h0⟩ := h; subst el; obtain ⟨b, r1, rfl, h1⟩ := zpi_e h0; obtain ⟨a, r2, rfl, h2⟩ := zpi_e h1; obtain ⟨g1, g2, h3⟩ := h2; exact zr_irem hd g1 g2 (hK _ _ _ _ _ h3)
  case ladd => obtain ⟨el, h0⟩ := h; subst el; obtain ⟨b, r1, rfl, h1⟩ := zpl_e h0; obtain ⟨a, r2, rfl, h2⟩ := zpl_e h1; exact zr_ladd hd (hK _ _ _ _ _ h2)
  case lmul => obtain ⟨el, h0⟩ := h; subst el; obtain ⟨b, r1, rfl, h1⟩ := zpl_e h0; obtain ⟨a, r2, rfl, h2⟩ := zpl_e h1; exact zr_lmul hd (hK _ _ _ _ _ h2)
  case lshr => obtain ⟨el, h0⟩ := h; subst el; obtain ⟨b, r1, rfl, h1⟩ := zpi_e h0; obtain ⟨a, r2, rfl, h2⟩ := zpl_e h1; exact zr_lshr hd (hK _ _ _ _ _ h2)
  case laload => obtain ⟨el, h0⟩ := h; subst el; obtain ⟨i, r1, rfl, h1⟩ := zpi_e h0; obtain ⟨q, r2, rfl, h2⟩ := zpr_e h1; obtain ⟨a, rfl, h3⟩ := zps_e h2; obtain ⟨n, f, e1, g1, g2, g3, h4⟩ := zar_e h3; exact zr_lald hd e1 g1 g2 g3 (hK _ _ _ _ _ h4)
  case lastore => obtain ⟨el, h0⟩ := h; subst el; obtain ⟨x, r1, rfl, h1⟩ := zpl_e h0; obtain ⟨i, r2, rfl, h2⟩ := zpi_e h1; obtain ⟨q, r3, rfl, h3⟩ := zpr_e h2; obtain ⟨a, rfl, h4⟩ := zps_e h3; obtain ⟨n, f, e1, g1, g2, g3, h5⟩ := zar_e h4; exact zr_last hd e1 g1 g2 g3 (hK _ _ _ _ _ h5)
  case lreturn => obtain ⟨el, h0⟩ := h; subst el; obtain ⟨z, r1, rfl, h1⟩ := zpl_e h0; obtain ⟨rfl, h2⟩ := zmt_e h1; obtain ⟨e1, h3⟩ := zrl_e h2; exact hJ z hd e1 h3
  case iadd => obtain ⟨el, h0⟩ := h; subst el; obtain ⟨b, r1, rfl, h1⟩ := zpi_e h0; obtain ⟨a, r2, rfl, h2⟩ := zpi_e h1; exact zr_iadd hd (hK _ _ _ _ _ h2)
  case isub => obtain ⟨el, h0⟩ := h; subst el; obtain ⟨b, r1, rfl, h1⟩ := zpi_e h0; obtain ⟨a, r2, rfl, h2⟩ := zpi_e h1; exact zr_isub hd (hK _ _ _ _ _ h2)
  case imul => obtain ⟨el, h0⟩ := h; subst el; obtain ⟨b, r1, rfl, h1⟩ := zpi_e h0; obtain ⟨a, r2, rfl, h2⟩ := zpi_e h1; exact zr_imul hd (hK _ _ _ _ _ h2)
  case iand => obtain ⟨el, h0⟩ := h; subst el; obtain ⟨b, r1, rfl, h1⟩ := zpi_e h0; obtain ⟨a, r2, rfl, h2⟩ := zpi_e h1; exact zr_iand hd (hK _ _ _ _ _ h2)
  case ishl => obtain ⟨el, h0⟩ := h; subst el; obtain ⟨b, r1, rfl, h1⟩ := zpi_e h0; obtain ⟨a, r2, rfl, h2⟩ := zpi_e h1; exact zr_ishl hd (hK _ _ _ _ _ h2)
  case ishr => obtain ⟨el, h0⟩ := h; subst el; obtain ⟨b, r1, rfl, h1⟩ := zpi_e h0; obtain ⟨a, r2, rfl, h2⟩ := zpi_e h1; exact zr_ishr hd (hK _ _ _ _ _ h2)
  case i2l => obtain ⟨el, h0⟩ := h; subst el; obtain ⟨b, r1, rfl, h1⟩ := zpi_e h0; exact zr_i2l hd (hK _ _ _ _ _ h1)
  case l2i => obtain ⟨el, h0⟩ := h; subst el; obtain ⟨b, r1, rfl, h1⟩ := zpl_e h0; exact zr_l2i hd (hK _ _ _ _ _ h1)
  case land => obtain ⟨el, h0⟩ := h; subst el; obtain ⟨b, r1, rfl, h1⟩ := zpl_e h0; obtain ⟨a, r2, rfl, h2⟩ := zpl_e h1; exact zr_land hd (hK _ _ _ _ _ h2)
  case lor => obtain ⟨el, h0⟩ := h; subst el; obtain ⟨b, r1, rfl, h1⟩ := zpl_e h0; obtain ⟨a, r2, rfl, h2⟩ := zpl_e h1; exact zr_lor hd (hK _ _ _ _ _ h2)
  case lcmp => obtain ⟨el, h0⟩ := h; subst el; obtain ⟨b, r1, rfl, h1⟩ := zpl_e h0; obtain ⟨a, r2, rfl, h2⟩ := zpl_e h1; exact zr_lcmp hd (hK _ _ _ _ _ h2)
  case lushr => obtain ⟨el, h0⟩ := h; subst el; obtain ⟨b, r1, rfl, h1⟩ := zpi_e h0; obtain ⟨a, r2, rfl, h2⟩ := zpl_e h1; exact zr_lushr hd (hK _ _ _ _ _ h2)
  case lshl => obtain ⟨el, h0⟩ := h; subst el; obtain ⟨b, r1, rfl, h1⟩ := zpi_e h0; obtain ⟨a, r2, rfl, h2⟩ := zpl_e h1; exact zr_lshl hd (hK _ _ _ _ _ h2)
  case dup =>
    obtain ⟨el, h0⟩ := h
    subst el
    match st, h0 with
    | v :: r, h0 => obtain ⟨g, h1⟩ := zdu_e h0; exact zr_dup hd g (hK _ _ _ _ _ h1)
  case dup2 => obtain ⟨el, h0⟩ := h; subst el; obtain ⟨b, r1, rfl, h1⟩ := zpi_e h0; obtain ⟨q, r2, rfl, h2⟩ := zpr_e h1; obtain ⟨a, rfl, h3⟩ := zps_e h2; exact zr_dup2 hd (hK _ _ _ _ _ h3)
  case pop => obtain ⟨el, h0⟩ := h; subst el; obtain ⟨b, r1, rfl, h1⟩ := zpi_e h0; exact zr_pop hd (hK _ _ _ _ _ h1)
  case goto off => obtain ⟨el, h0⟩ := h; subst el; obtain ⟨g, h1⟩ := h0; exact zr_goto hd g (hK _ _ _ _ _ h1)
  case if_icmp cd off => obtain ⟨el, h0⟩ := h; subst el; obtain ⟨b, r1, rfl, h1⟩ := zpi_e h0; obtain ⟨a, r2, rfl, h2⟩ := zpi_e h1; obtain ⟨ha, hb, ⟨g, K1⟩, h3⟩ := h2; exact zr_icmp hd g ha hb (fun q => hK _ _ _ _ _ (K1 q)) (fun q => hK _ _ _ _ _ (h3 q))
  case ifCond cd off => obtain ⟨el, h0⟩ := h; subst el; obtain ⟨a, r1, rfl, h1⟩ := zpi_e h0; obtain ⟨ha, ⟨g, K1⟩, h2⟩ := h1; exact zr_ifz hd g ha (fun q => hK _ _ _ _ _ (K1 q)) (fun q => hK _ _ _ _ _ (h2 q))
  case ifnull off => obtain ⟨el, h0⟩ := h; subst el; obtain ⟨q, r1, rfl, h1⟩ := zpr_e h0; obtain ⟨⟨g, K1⟩, h2⟩ := h1; exact zr_ifnull hd g (fun q => hK _ _ _ _ _ (K1 q)) (fun q => hK _ _ _ _ _ (h2 q))
  case ifnonnull off => obtain ⟨el, h0⟩ := h; subst el; obtain ⟨q, r1, rfl, h1⟩ := zpr_e h0; obtain ⟨⟨g, K1⟩, h2⟩ := h1; exact zr_ifnonnull hd g (fun q => hK _ _ _ _ _ (K1 q)) (fun q => hK _ _ _ _ _ (h2 q))
  case tableswitch dflt l hh offs => obtain ⟨x, r1, rfl, h1⟩ := zpi_e h; obtain ⟨hx, he, hs, g, K1⟩ := h1; exact zr_tsw hd hx he g (zSw_w (fun t g => hK _ _ _ _ _ g) hs) (fun q => hK _ _ _ _ _ (K1 q))
  case getfield i => obtain ⟨el, h0⟩ := h; subst el; obtain ⟨q, r1, rfl, h1⟩ := zpr_e h0; obtain ⟨a, rfl, h2⟩ := zps_e h1; obtain ⟨ci, kf, fk, e1, h3⟩ := zfl_e h2; obtain ⟨fs, e2, h4⟩ := zob_e h3; obtain ⟨v, e3, h5⟩ := zgv_e h4; exact zr_getfield hd e1 e2 e3 (hK _ _ _ _ _ h5)
  case putfield i =>
    obtain ⟨el, h0⟩ := h
    subst el
    match st, h0 with
    | .inl v :: r, h0 =>
      obtain ⟨q, r1, rfl, h1⟩ := zpr_e h0; obtain ⟨a, rfl, h2⟩ := zps_e h1; obtain ⟨ci, kf, fk, e1, h3⟩ := zfl_e h2; obtain ⟨e0, h4⟩ := h3; subst e0; obtain ⟨fs, e2, h5⟩ := zob_e h4; obtain ⟨w, e3, h6⟩ := zgv_e h5
      exact zr_putfield hd e1 e2 e3 (hK _ _ _ _ _ h6)
    | .inr (.inl v) :: r, h0 =>
      obtain ⟨b, rfl, h1⟩ := zps_e h0; obtain ⟨q, r1, rfl, h2⟩ := zpr_e h1; obtain ⟨a, rfl, h3⟩ := zps_e h2; obtain ⟨ci, kf, fk, e1, h4⟩ := zfl_e h3; obtain ⟨e0, ei, eo, h5⟩ := h4; subst e0; obtain ⟨fs, e2, h6⟩ := zob_e h5; obtain ⟨w, e3, h7⟩ := zgv_e h6
      exact zr_putfieldR hd e1 ei eo e2 e3 (hK _ _ _ _ _ h7)
    | .inr (.inr _) :: _, h0 => exact h0.elim
    | [], h0 => exact h0.elim
  case arraylength => obtain ⟨el, h0⟩ := h; subst el; obtain ⟨q, r1, rfl, h1⟩ := zpr_e h0; obtain ⟨a, rfl, h2⟩ := zps_e h1; obtain ⟨t, n, f, e1, ht, h3⟩ := zln_e h2; exact zr_alen hd e1 ht (hK _ _ _ _ _ h3)
  case iaload => obtain ⟨el, h0⟩ := h; subst el; obtain ⟨i, r1, rfl, h1⟩ := zpi_e h0; obtain ⟨q, r2, rfl, h2⟩ := zpr_e h1; obtain ⟨a, rfl, h3⟩ := zps_e h2; obtain ⟨n, f, e1, g1, g2, g3, h4⟩ := zar_e h3; exact zr_iald hd e1 g1 g2 g3 (hK _ _ _ _ _ h4)
  case baload => obtain ⟨el, h0⟩ := h; subst el; obtain ⟨i, r1, rfl, h1⟩ := zpi_e h0; obtain ⟨q, r2, rfl, h2⟩ := zpr_e h1; obtain ⟨a, rfl, h3⟩ := zps_e h2; obtain ⟨n, f, e1, g1, g2, g3, h4⟩ := zar_e h3; exact zr_bald hd e1 g1 g2 g3 (hK _ _ _ _ _ h4)
  case aaload => obtain ⟨el, h0⟩ := h; subst el; obtain ⟨i, r1, rfl, h1⟩ := zpi_e h0; obtain ⟨q, r2, rfl, h2⟩ := zpr_e h1; obtain ⟨a, rfl, h3⟩ := zps_e h2; obtain ⟨t, n, f, e1, g0, g1, g2, g3, h4⟩ := zqr_e h3; exact zr_aald hd e1 g0 g1 g2 g3 (hK _ _ _ _ _ h4)
  case iastore => obtain ⟨el, h0⟩ := h; subst el; obtain ⟨x, r1, rfl, h1⟩ := zpi_e h0; obtain ⟨i, r2, rfl, h2⟩ := zpi_e h1; obtain ⟨q, r3, rfl, h3⟩ := zpr_e h2; obtain ⟨a, rfl, h4⟩ := zps_e h3; obtain ⟨n, f, e1, g1, g2, g3, h5⟩ := zar_e h4; exact zr_iast hd e1 g1 g2 g3 (hK _ _ _ _ _ h5)
  case bastore => obtain ⟨el, h0⟩ := h; subst el; obtain ⟨x, r1, rfl, h1⟩ := zpi_e h0; obtain ⟨i, r2, rfl, h2⟩ := zpi_e h1; obtain ⟨q, r3, rfl, h3⟩ := zpr_e h2; obtain ⟨a, rfl, h4⟩ := zps_e h3; obtain ⟨n, f, e1, g1, g2, g3, gx, h5⟩ := zar_e h4; exact zr_bast hd e1 g1 g2 g3 gx (hK _ _ _ _ _ h5)
  case aastore => obtain ⟨el, h0⟩ := h; subst el; obtain ⟨v, r1, rfl, h1⟩ := zpr_e h0; obtain ⟨b, rfl, h2⟩ := zps_e h1; obtain ⟨i, r2, rfl, h3⟩ := zpi_e h2; obtain ⟨q, r3, rfl, h4⟩ := zpr_e h3; obtain ⟨a, rfl, h5⟩ := zps_e h4; obtain ⟨t, n, f, e1, g0, g1, g2, g3, h6⟩ := zqr_e h5; obtain ⟨fs, e2, h7⟩ := zob_e h6; exact zr_aast hd e1 g0 e2 g1 g2 g3 (hK _ _ _ _ _ h7)
  case new i => obtain ⟨el, h0⟩ := h; subst el; obtain ⟨ci, e1, h1⟩ := znx_e h0; obtain ⟨g1, g2, h2⟩ := h1; exact zr_new hd e1 g1 g2 (fun nx b1 b2 => hC _ _ _ _ _ (h2 nx b1 b2))
  case newarray t => obtain ⟨el, h0⟩ := h; subst el; obtain ⟨n, r1, rfl, h1⟩ := zpi_e h0; obtain ⟨t2, e1, h2⟩ := zat_e h1; obtain ⟨g1, g2, g3, g4, h3⟩ := h2; exact zr_newa hd e1 g1 g2 g3 g4 (fun nx b1 b2 => hC _ _ _ _ _ (h3 nx b1 b2))
  case anewarray i =>
    obtain ⟨el, h0⟩ := h
    subst el
    obtain ⟨n, r1, rfl, h1⟩ := zpi_e h0; obtain ⟨ci, e1, h2⟩ := znx_e h1; obtain ⟨gc, g1, g2, g3, g4, h3⟩ := h2
    rcases gc with rfl | rfl
    · exact zr_anew (t := 2) hd e1 (Or.inl rfl) g1 g2 g3 g4 (fun nx b1 b2 => hC _ _ _ _ _ (h3 nx b1 b2))
    · exact zr_anew (t := 3) hd e1 (Or.inr rfl) g1 g2 g3 g4 (fun nx b1 b2 => hC _ _ _ _ _ (h3 nx b1 b2))
  case invokevirtual i =>
    obtain ⟨el, h0⟩ := h
    subst el
    rcases zcr_e h0 with ⟨y, n, mc, ms, e1, h1⟩ | hf
    · obtain ⟨as, r1, rfl, e2, h2⟩ := zsp_e h1; obtain ⟨q, r2, rfl, h3⟩ := zpr_e h2; obtain ⟨a, rfl, h4⟩ := zps_e h3; obtain ⟨fs, e3, h5⟩ := zob_e h4; obtain ⟨g1, g2, g3, h6⟩ := h5; obtain ⟨d', rfl, h7⟩ := zdp_e h6
      rw [List.append_nil] at h7
      exact zr_callV hd e1 e2 e3 g1 g2 g3 h7 (fun r M' g => hC _ _ _ _ _ g)
    · exact hf.elim
  case invokestatic i =>
    obtain ⟨el, h0⟩ := h
    subst el
    rcases zcr_e h0 with ⟨y, n, mc, ms, e1, h1⟩ | hf
    · obtain ⟨as, r1, rfl, e2, h2⟩ := zsp_e h1; obtain ⟨g1, g2, g3, h6⟩ := h2; obtain ⟨d', rfl, h7⟩ := zdp_e h6
      rw [List.append_nil] at h7
      exact zr_callS hd e1 e2 g1 g2 g3 h7 (fun r M' g => hC _ _ _ _ _ g)
    · obtain ⟨e1, h1⟩ := hf
      obtain ⟨n, r1, rfl, h2⟩ := zpi_e h1; obtain ⟨dp, r2, rfl, h3⟩ := zpi_e h2; obtain ⟨q, r3, rfl, h4⟩ := zpr_e h3; obtain ⟨a, rfl, h5⟩ := zps_e h4; obtain ⟨sp, r4, rfl, h6⟩ := zpi_e h5; obtain ⟨q0, r5, rfl, h7⟩ := zpr_e h6; obtain ⟨a0, rfl, h8⟩ := zps_e h7
      obtain ⟨hne, h9⟩ := h8; obtain ⟨n0, f, e2, -, -, l0, h10⟩ := zar_e h9; obtain ⟨n1, g, e3, -, -, l1, h11⟩ := zar_e h10; obtain ⟨b1, b2, b3, b4, b5, b6, h12⟩ := h11; obtain ⟨d', rfl, h13⟩ := zdp_e h12
      exact zr_copy hd e1 hne e2 e3 b1 b2 b3 b4 b5 l0 l1 b6 (hK _ _ _ _ _ h13)
  case invokespecial i =>
    obtain ⟨el, h0⟩ := h
    subst el
    rcases zcr_e h0 with ⟨y, n, mc, ms, e1, h1⟩ | hf
    · obtain ⟨as, r1, rfl, e2, h2⟩ := zsp_e h1; obtain ⟨q, r2, rfl, h3⟩ := zpr_e h2; obtain ⟨a, rfl, h4⟩ := zps_e h3; obtain ⟨g1, g2, g3, h6⟩ := h4; obtain ⟨d', rfl, h7⟩ := zdp_e h6
      rw [List.append_nil] at h7
      exact zr_callI hd e1 e2 g1 g2 g3 h7 (fun r M' g => hC _ _ _ _ _ g)
    · obtain ⟨e1, h1⟩ := hf
      obtain ⟨q, r2, rfl, h3⟩ := zpr_e h1; obtain ⟨a, rfl, h4⟩ := zps_e h3; obtain ⟨g1, h6⟩ := h4; obtain ⟨d', rfl, h7⟩ := zdp_e h6
      exact zr_objInit hd e1 g1 (hK _ _ _ _ _ h7)
  case ireturn =>
    obtain ⟨el, h0⟩ := h
    subst el
    obtain ⟨z, r1, rfl, h1⟩ := zpi_e h0; obtain ⟨rfl, h2⟩ := zmt_e h1
    rcases zrt_e h2 with ⟨e1, h3⟩ | ⟨e1, h3⟩
    · exact hI z hd e1 h3
    · exact hZ z hd e1 h3.1 h3.2
  case areturn =>
    obtain ⟨el, h0⟩ := h
    subst el
    obtain ⟨z, r1, rfl, h1⟩ := zpr_e h0; obtain ⟨rfl, h2⟩ := zmt_e h1; obtain ⟨C, e1, h3⟩ := zro_e h2
    exact hA z C hd e1 h3
  case return_ =>
    obtain ⟨el, h0⟩ := h
    subst el
    obtain ⟨rfl, h1⟩ := zmt_e h0; obtain ⟨e1, h2⟩ := zrv_e h1
    exact hV hd e1 h2
  all_goals exact h.elim
/-- what a run is given: lo, depth, room, method, where to stop, how to go on there, the end -/
abbrev zEv : Type := Nat × Nat × Nat × Nat × zY × List Nat × (Nat × Nat → Nat → List (Option zV) → List zV → zM → Prop) × (Option zV → Nat × Nat → zM → Prop)
def zstp (S : List Nat) (pc : Nat) (A B : Prop) : Prop := match S with
  | [] => B
  | p :: r => if pc = p then A else zstp r pc A B
/-- n steps, or until a place where to stop -/
def zX (E : zEv) : Nat → Nat × Nat → Nat → List (Option zV) → List zV → zM → Prop
  | 0, u, pc, ls, st, M => E.2.2.2.2.2.2.1 u pc ls st M
  | n + 1, u, pc, ls, st, M => zstp E.2.2.2.2.2.1 pc (E.2.2.2.2.2.2.1 u pc ls st M) (match decode (zYb E.2.2.2.2.1) pc with
    | .ok (i, len) => zS E.1 E.2.1 E.2.2.1 E.2.2.2.1 E.2.2.2.2.1 i len u pc ls st M (fun u' pc' ls' st' M' => zX E n u' pc' ls' st' M') E.2.2.2.2.2.2.1 E.2.2.2.2.2.2.2
    | .error _ => False)
def zI (E : zEv) (x : Except DecodeError (Instr × Nat)) (n : Nat) (u : Nat × Nat) (pc : Nat) (ls : List (Option zV)) (st : List zV) (M : zM) : Prop := match x with
  | .ok (i, len) => zS E.1 E.2.1 E.2.2.1 E.2.2.2.1 E.2.2.2.2.1 i len u pc ls st M (fun u' pc' ls' st' M' => zX E n u' pc' ls' st' M') E.2.2.2.2.2.2.1 E.2.2.2.2.2.2.2
  | .error _ => False
theorem zstp_or : ∀ {S : List Nat} {pc : Nat} {A B : Prop}, zstp S pc A B → A ∨ B
  | [], _, _, _, h => Or.inr h
  | p :: r, pc, A, B, h => by
    unfold zstp at h
    split at h
    · exact Or.inl h
    · exact zstp_or h
section ZXO
variable {Rm : Room} {Fn : List Frame → Array Value → State → va_G → (Nat → ClassId) → State → Prop} {E : zEv}
theorem zI_ok (hR : E.2.2.1 = Rm.cells ∧ E.2.2.2.1 = Rm.slots)
    (hC : ∀ u pc ls st M, E.2.2.2.2.2.2.1 u pc ls st M → zRn E.1 E.2.1 Rm E.2.2.2.2.1 Fn u pc ls st M)
    (hI : ∀ u pc ls M z, decode (zYb E.2.2.2.2.1) pc = .ok (.ireturn, 1) → zYr E.2.2.2.2.1 = some .int → E.2.2.2.2.2.2.2 (some (.inl z)) u M → zRn E.1 E.2.1 Rm E.2.2.2.2.1 Fn u pc ls [.inl z] M)
    (hZ : ∀ u pc ls M z, decode (zYb E.2.2.2.2.1) pc = .ok (.ireturn, 1) → zYr E.2.2.2.2.1 = some .boolean → (z = 0 ∨ z = 1) → E.2.2.2.2.2.2.2 (some (.inl z)) u M → zRn E.1 E.2.1 Rm E.2.2.2.2.1 Fn u pc ls [.inl z] M)
    (hA : ∀ u pc ls M r C, decode (zYb E.2.2.2.2.1) pc = .ok (.areturn, 1) → zYr E.2.2.2.2.1 = some (.object C) → E.2.2.2.2.2.2.2 (some (.inr (.inl r))) u M → zRn E.1 E.2.1 Rm E.2.2.2.2.1 Fn u pc ls [.inr (.inl r)] M)
    (hV : ∀ u pc ls M, decode (zYb E.2.2.2.2.1) pc = .ok (.return_, 1) → zYr E.2.2.2.2.1 = none → E.2.2.2.2.2.2.2 none u M → zRn E.1 E.2.1 Rm E.2.2.2.2.1 Fn u pc ls [] M)
    (hJ : ∀ u pc ls M z, decode (zYb E.2.2.2.2.1) pc = .ok (.lreturn, 1) → zYr E.2.2.2.2.1 = some .long → E.2.2.2.2.2.2.2 (some (.inr (.inr z))) u M → zRn E.1 E.2.1 Rm E.2.2.2.2.1 Fn u pc ls [.inr (.inr z)] M) :
    ∀ (n : Nat), (∀ (u : Nat × Nat) (pc : Nat) (ls : List (Option zV)) (st : List zV) (M : zM), zX E n u pc ls st M → zRn E.1 E.2.1 Rm E.2.2.2.2.1 Fn u pc ls st M) ∧ (∀ (u : Nat × Nat) (pc : Nat) (ls : List (Option zV)) (st : List zV) (M : zM), zI E (decode (zYb E.2.2.2.2.1) pc) n u pc ls st M → zRn E.1 E.2.1 Rm E.2.2.2.2.1 Fn u pc ls st M) := by
  have key : ∀ (n : Nat), (∀ (u : Nat × Nat) (pc : Nat) (ls : List (Option zV)) (st : List zV) (M : zM), zX E n u pc ls st M → zRn E.1 E.2.1 Rm E.2.2.2.2.1 Fn u pc ls st M) → (∀ (u : Nat × Nat) (pc : Nat) (ls : List (Option zV)) (st : List zV) (M : zM), zI E (decode (zYb E.2.2.2.2.1) pc) n u pc ls st M → zRn E.1 E.2.1 Rm E.2.2.2.2.1 Fn u pc ls st M) := by
    intro n ih u pc ls st M h
    cases hd : decode (zYb E.2.2.2.2.1) pc with
    | error er => rw [hd] at h; exact h.elim
    | ok x =>
      obtain ⟨i, len⟩ := x
      rw [hd] at h
      have h2 : zS E.1 E.2.1 E.2.2.1 E.2.2.2.1 E.2.2.2.2.1 i len u pc ls st M (fun u' pc' ls' st' M' => zX E n u' pc' ls' st' M') E.2.2.2.2.2.2.1 E.2.2.2.2.2.2.2 := h
      rw [hR.1, hR.2] at h2
      exact zS_ok (KC := E.2.2.2.2.2.2.1) (fun u' pc' ls' st' M' g => hC u' pc' ls' st' M' g) (fun u' pc' ls' st' M' g => ih u' pc' ls' st' M' g) (fun z => hI u pc ls M z) (fun z => hZ u pc ls M z) (fun r C => hA u pc ls M r C) (hV u pc ls M) (fun z => hJ u pc ls M z) hd h2
  intro n
  induction n with
  | zero => exact ⟨fun u pc ls st M h => hC u pc ls st M h, key 0 (fun u pc ls st M h => hC u pc ls st M h)⟩
  | succ n ih =>
    have h1 : ∀ (u : Nat × Nat) (pc : Nat) (ls : List (Option zV)) (st : List zV) (M : zM), zX E (n + 1) u pc ls st M → zRn E.1 E.2.1 Rm E.2.2.2.2.1 Fn u pc ls st M := by
      intro u pc ls st M h
      rcases zstp_or h with h | h
      · exact hC u pc ls st M h
      · exact ih.2 u pc ls st M h
    exact ⟨h1, key (n + 1) h1⟩
end ZXO
/-- where a method of ours stands: Q of its answer and of the memory behind it -/
def zm (lo d : Nat) (k : zY) (mc ms : Nat) (Q : Option zV → zM → Prop) (u : Nat × Nat) (pc : Nat) (ls : List (Option zV)) (st : List zV) (M : zM) : Prop := zRn lo d (zR d mc ms) k (zFn lo mc ms Q) u pc ls st M
def zGo (lo d : Nat) (k : zY) (mc ms : Nat) (Q : Option zV → zM → Prop) (S : List Nat) : zEv := (lo, d, mc, ms, k, S, (fun u pc ls st M => zm lo d k mc ms Q u pc ls st M), (fun r u M => u.1 ≤ mc ∧ u.2 ≤ ms ∧ Q r M))
/-- go on, until a place in S, a call, a new cell or the end -/
theorem zgo (S : List Nat) {lo d : Nat} {k : zY} {mc ms : Nat} {Q : Option zV → zM → Prop} {u : Nat × Nat} {pc : Nat} {ls : List (Option zV)} {st : List zV} {M : zM} (h : zI (zGo lo d k mc ms Q S) (decode (zYb k) pc) 500 u pc ls st M) : zm lo d k mc ms Q u pc ls st M :=
  (zI_ok (E := zGo lo d k mc ms Q S) (Rm := zR d mc ms) ⟨rfl, rfl⟩ (fun _ _ _ _ _ g => g) (fun _ _ _ _ _ hd hr g => zr_iret hd hr g.1 g.2.1 g.2.2) (fun _ _ _ _ _ hd hr hz g => zr_zret hd hr hz g.1 g.2.1 g.2.2) (fun _ _ _ _ _ _ hd hr g => zr_aret hd hr g.1 g.2.1 g.2.2) (fun _ _ _ _ hd hr g => zr_vret hd hr g.1 g.2.1 g.2.2) (fun _ _ _ _ _ hd hr g => zr_lret hd hr g.1 g.2.1 g.2.2) 500).2 u pc ls st M h
theorem zct {lo d : Nat} {k : zY} {mc ms : Nat} {as : List zV} {M : zM} {Q : Option zV → zM → Prop} (ls : List (Option zV)) (hls : zEn as (zYl k) = ls) (hlen : (zEa as).length ≤ zYl k) (hpl : plainName (zYn k).cls = true) (hcn : (zYn k).cls = zCn (zYo k)) (h : zm lo d k mc ms Q (0, 0) 0 ls [] M) : zCt lo d k mc ms as M Q := zCt_of ls hls hlen hpl hcn h
