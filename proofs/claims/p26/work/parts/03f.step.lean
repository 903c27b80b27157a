-- THE STEP as a function to be computed: zX n = n instructions; what must hold behind them
def zf4 (n : Fin 4) : Nat := n.val
theorem zf4_0 : zf4 0 = 0 := rfl
theorem zf4_1 : zf4 1 = 1 := rfl
theorem zf4_2 : zf4 2 = 2 := rfl
theorem zf4_3 : zf4 3 = 3 := rfl
def zwi (x : Option (Option zV)) (K : Int → Prop) : Prop := match x with
  | some (some (.inl z)) => K z
  | _ => False
def zwr (x : Option (Option zV)) (K : Option Nat → Prop) : Prop := match x with
  | some (some (.inr (.inl r))) => K r
  | _ => False
def zwl (x : Option (Option zV)) (K : Int64 → Prop) : Prop := match x with
  | some (some (.inr (.inr r))) => K r
  | _ => False
def zws (x : Option (Option zV)) (P : Prop) : Prop := match x with
  | some _ => P
  | none => False
def zlq (ls : List (Option zV)) (k : Nat) (P : Prop) : Prop := match k with
  | 0 => P
  | k + 1 => match zg ls k with
    | some (some (.inr (.inr _))) => False
    | _ => P
def zpi (st : List zV) (K : Int → List zV → Prop) : Prop := match st with
  | .inl a :: r => K a r
  | _ => False
def zpr (st : List zV) (K : Option Nat → List zV → Prop) : Prop := match st with
  | .inr (.inl a) :: r => K a r
  | _ => False
def zpl (st : List zV) (K : Int64 → List zV → Prop) : Prop := match st with
  | .inr (.inr a) :: r => K a r
  | _ => False
def zps (r : Option Nat) (K : Nat → Prop) : Prop := match r with
  | some a => K a
  | none => False
def zfl (x : Option (Nat × Nat × Nat)) (K : Nat → Nat → Nat → Prop) : Prop := match x with
  | some (a, b, c) => K a b c
  | none => False
def zob (c : Option zC) (ci : Nat) (K : List zV → Prop) : Prop := match c with
  | some (.inl (cj, fs)) => cj = ci ∧ K fs
  | _ => False
def zgv (x : Option zV) (K : zV → Prop) : Prop := match x with
  | some v => K v
  | none => False
def zar (c : Option zC) (t : Nat) (i : Int) (K : Nat → (Nat → Int) → Prop) : Prop := match c with
  | some (.inr (s, n, .inl f)) => s = t ∧ 0 ≤ i ∧ i < (n : Int) ∧ n < 2147483648 ∧ K n f
  | _ => False
def zqr (c : Option zC) (i : Int) (K : Nat → Nat → (Nat → Option Nat) → Prop) : Prop := match c with
  | some (.inr (t, n, .inr f)) => (t = 2 ∨ t = 3) ∧ 0 ≤ i ∧ i < (n : Int) ∧ n < 2147483648 ∧ K t n f
  | _ => False
def zln (c : Option zC) (K : Nat → Prop) : Prop := match c with
  | some (.inr (t, n, _)) => t < 4 ∧ K n
  | _ => False
def znx (x : Option Nat) (K : Nat → Prop) : Prop := match x with
  | some a => K a
  | none => False
def zlc (x : Option Int64) (K : Int64 → Prop) : Prop := match x with
  | some a => K a
  | none => False
def zcr (x : Option zCR) (kd : Nat) (K : zY → Nat → Nat → Nat → Prop) (E : Prop) : Prop := match x with
  | some (kd', y, n, mc, ms) => kd' = kd ∧ K y n mc ms
  | none => E
def zsp (n : Nat) (acc st : List zV) (K : List zV → List zV → Prop) : Prop := match n, st with
  | 0, st => K acc st
  | n + 1, v :: st => zsp n (v :: acc) st K
  | _ + 1, [] => False
def zdp (d : Nat) (K : Nat → Prop) : Prop := match d with
  | 0 => False
  | d + 1 => K d
def zdu (v : zV) (P : Prop) : Prop := match v with
  | .inr (.inr _) => False
  | _ => P
def ztq (pc : Nat) (off : Int) (K : Nat → Prop) : Prop := 0 ≤ (pc : Int) + off ∧ K ((pc : Int) + off).toNat
def zrt (r : Option FieldType) (K0 K1 : Prop) : Prop := match r with
  | some .int => K0
  | some .boolean => K1
  | _ => False
def zro (r : Option FieldType) (P : Prop) : Prop := match r with
  | some (.object _) => P
  | _ => False
def zrv (r : Option FieldType) (P : Prop) : Prop := match r with
  | none => P
  | some _ => False
def zmt (st : List zV) (P : Prop) : Prop := match st with
  | [] => P
  | _ :: _ => False
def zat (t : ArrayType) (K : Nat → Prop) : Prop := match t with
  | .int => K 0
  | .boolean => K 1
  | .long => K 4
  | _ => False
def zic (x : Option Int) (K : Int → Prop) : Prop := match x with
  | some a => K a
  | none => False
def zrl (r : Option FieldType) (P : Prop) : Prop := match r with
  | some .long => P
  | _ => False
def zS (lo d : Nat) (Rc Rs : Nat) (k : zY) (i : Instr) (len : Nat) (u : Nat × Nat) (pc : Nat) (ls : List (Option zV)) (st : List zV) (M : zM)
    (K KC : Nat × Nat → Nat → List (Option zV) → List zV → zM → Prop) (Rt : Option zV → Nat × Nat → zM → Prop) : Prop := match i with
  | .iload_n n => len = 1 ∧ zwi (zg ls (zf4 n)) (fun z => K u (pc + 1) ls (.inl z :: st) M)
  | .iload n => len = 2 ∧ zwi (zg ls n) (fun z => K u (pc + 2) ls (.inl z :: st) M)
  | .aload_n n => len = 1 ∧ zwr (zg ls (zf4 n)) (fun z => K u (pc + 1) ls (.inr (.inl z) :: st) M)
  | .aload n => len = 2 ∧ zwr (zg ls n) (fun z => K u (pc + 2) ls (.inr (.inl z) :: st) M)
  | .lload_n n => len = 1 ∧ zwl (zg ls (zf4 n)) (fun z => K u (pc + 1) ls (.inr (.inr z) :: st) M)
  | .lload n => len = 2 ∧ zwl (zg ls n) (fun z => K u (pc + 2) ls (.inr (.inr z) :: st) M)
  | .istore_n n => len = 1 ∧ zpi st (fun z r => zws (zg ls (zf4 n)) (zlq ls (zf4 n) (K u (pc + 1) (zst ls (zf4 n) (some (.inl z))) r M)))
  | .istore n => len = 2 ∧ zpi st (fun z r => zws (zg ls n) (zlq ls n (K u (pc + 2) (zst ls n (some (.inl z))) r M)))
  | .astore_n n => len = 1 ∧ zpr st (fun z r => zws (zg ls (zf4 n)) (zlq ls (zf4 n) (K u (pc + 1) (zst ls (zf4 n) (some (.inr (.inl z)))) r M)))
  | .astore n => len = 2 ∧ zpr st (fun z r => zws (zg ls n) (zlq ls n (K u (pc + 2) (zst ls n (some (.inr (.inl z)))) r M)))
  | .lstore n => len = 2 ∧ zpl st (fun z r => zws (zg ls (n + 1)) (zlq ls n (K u (pc + 2) (zst (zst ls n (some (.inr (.inr z)))) (n + 1) none) r M)))
  | .iinc n dz => len = 3 ∧ zwi (zg ls n) (fun z => zlq ls n (K u (pc + 3) (zst ls n (some (.inl (z + dz)))) st M))
  | .iconst n => len = 1 ∧ K u (pc + 1) ls (.inl n :: st) M
  | .bipush n => len = 2 ∧ -128 ≤ n ∧ n ≤ 127 ∧ K u (pc + 2) ls (.inl n :: st) M
  | .sipush n => len = 3 ∧ -32768 ≤ n ∧ n ≤ 32767 ∧ K u (pc + 3) ls (.inl n :: st) M
  | .lconst n => len = 1 ∧ K u (pc + 1) ls (.inr (.inr (Int64.ofNat n.val)) :: st) M
  | .aconst_null => len = 1 ∧ K u (pc + 1) ls (.inr (.inl none) :: st) M
  | .ldc2_w i => len = 3 ∧ zlc (zLc (zYo k) i) (fun v => K u (pc + 3) ls (.inr (.inr v) :: st) M)
  | .ldc i => len = 2 ∧ zic (zIc (zYo k) i) (fun v => K u (pc + 2) ls (.inl v :: st) M)
  | .irem => len = 1 ∧ zpi st (fun b r => zpi r (fun a r => 0 < b ∧ b < 2147483648 ∧ K u (pc + 1) ls (.inl (zrem a b) :: r) M))
  | .ladd => len = 1 ∧ zpl st (fun y r => zpl r (fun x r => K u (pc + 1) ls (.inr (.inr (x + y)) :: r) M))
  | .lmul => len = 1 ∧ zpl st (fun y r => zpl r (fun x r => K u (pc + 1) ls (.inr (.inr (x * y)) :: r) M))
  | .lshr => len = 1 ∧ zpi st (fun b r => zpl r (fun x r => K u (pc + 1) ls (.inr (.inr (x >>> ((Int32.ofInt b).toInt64 &&& 63))) :: r) M))
  | .laload => len = 1 ∧ zpi st (fun i r => zpr r (fun q r => zps q (fun a => zar (M a) 4 i (fun _ f => K u (pc + 1) ls (.inr (.inr (Int64.ofInt (f i.toNat))) :: r) M))))
  | .lastore => len = 1 ∧ zpl st (fun x r => zpi r (fun i r => zpr r (fun q r => zps q (fun a => zar (M a) 4 i (fun n f => K u (pc + 1) ls r (zup M a (.inr (4, n, .inl (zu f i.toNat x.toInt)))))))))
  | .lreturn => len = 1 ∧ zpl st (fun z r => zmt r (zrl (zYr k) (Rt (some (.inr (.inr z))) u M)))
  | .iadd => len = 1 ∧ zpi st (fun b r => zpi r (fun a r => K u (pc + 1) ls (.inl (a + b) :: r) M))
  | .isub => len = 1 ∧ zpi st (fun b r => zpi r (fun a r => K u (pc + 1) ls (.inl (a - b) :: r) M))
  | .imul => len = 1 ∧ zpi st (fun b r => zpi r (fun a r => K u (pc + 1) ls (.inl (a * b) :: r) M))
  | .iand => len = 1 ∧ zpi st (fun b r => zpi r (fun a r => K u (pc + 1) ls (.inl (zand a b) :: r) M))
  | .ishl => len = 1 ∧ zpi st (fun b r => zpi r (fun a r => K u (pc + 1) ls (.inl (zshl a b) :: r) M))
  | .ishr => len = 1 ∧ zpi st (fun b r => zpi r (fun a r => K u (pc + 1) ls (.inl (zshr a b) :: r) M))
  | .i2l => len = 1 ∧ zpi st (fun a r => K u (pc + 1) ls (.inr (.inr (Int32.ofInt a).toInt64) :: r) M)
  | .l2i => len = 1 ∧ zpl st (fun x r => K u (pc + 1) ls (.inl x.toInt32.toInt :: r) M)
  | .land => len = 1 ∧ zpl st (fun y r => zpl r (fun x r => K u (pc + 1) ls (.inr (.inr (x &&& y)) :: r) M))
  | .lor => len = 1 ∧ zpl st (fun y r => zpl r (fun x r => K u (pc + 1) ls (.inr (.inr (x ||| y)) :: r) M))
  | .lushr => len = 1 ∧ zpi st (fun b r => zpl r (fun x r => K u (pc + 1) ls (.inr (.inr (x.toUInt64 >>> ((Int32.ofInt b).toInt64.toUInt64 &&& Int64.toUInt64 63)).toInt64) :: r) M))
  | .lshl => len = 1 ∧ zpi st (fun b r => zpl r (fun x r => K u (pc + 1) ls (.inr (.inr (x <<< ((Int32.ofInt b).toInt64 &&& 63))) :: r) M))
  | .lcmp => len = 1 ∧ zpl st (fun y r => zpl r (fun x r => K u (pc + 1) ls (.inl (lg_cmp x y).toInt :: r) M))
  | .dup => len = 1 ∧ (match st with | v :: r => zdu v (K u (pc + 1) ls (v :: v :: r) M) | [] => False)
  | .dup2 => len = 1 ∧ zpi st (fun v r => zpr r (fun q r => zps q (fun a => K u (pc + 1) ls (.inl v :: .inr (.inl (some a)) :: .inl v :: .inr (.inl (some a)) :: r) M)))
  | .pop => len = 1 ∧ zpi st (fun _ r => K u (pc + 1) ls r M)
  | .goto off => len = 3 ∧ ztq pc off (fun t => K u t ls st M)
  | .if_icmp cd off => len = 3 ∧ zpi st (fun b r => zpi r (fun a r => zRr a ∧ zRr b ∧ ztq pc off (fun t => zCd cd a b → K u t ls r M) ∧ (¬ zCd cd a b → K u (pc + 3) ls r M)))
  | .ifCond cd off => len = 3 ∧ zpi st (fun a r => zRr a ∧ ztq pc off (fun t => zCd cd a 0 → K u t ls r M) ∧ (¬ zCd cd a 0 → K u (pc + 3) ls r M))
  | .ifnull off => len = 3 ∧ zpr st (fun q r => ztq pc off (fun t => q = none → K u t ls r M) ∧ (q ≠ none → K u (pc + 3) ls r M))
  | .ifnonnull off => len = 3 ∧ zpr st (fun q r => ztq pc off (fun t => q ≠ none → K u t ls r M) ∧ (q = none → K u (pc + 3) ls r M))
  | .tableswitch dflt l h offs => zpi st (fun x r => zRr x ∧ h + 1 = l + offs.toList.length ∧ zSw pc x (fun t => K u t ls r M) offs.toList l ∧ ztq pc dflt (fun t => x < l ∨ h < x → K u t ls r M))
  | .getfield i => len = 3 ∧ zpr st (fun q r => zps q (fun a => zfl (zF (zYo k) i) (fun ci kf _ => zob (M a) ci (fun fs => zgv (zg fs kf) (fun v => K u (pc + 3) ls (v :: r) M)))))
  | .putfield i => len = 3 ∧ (match st with
    | .inl v :: r => zpr r (fun q r => zps q (fun a => zfl (zF (zYo k) i) (fun ci kf fk => fk = 0 ∧ zob (M a) ci (fun fs => zgv (zg fs kf) (fun _ => K u (pc + 3) ls r (zup M a (.inl (ci, zst fs kf (.inl v)))))))))
    | .inr (.inl v) :: r => zps v (fun b => zpr r (fun q r => zps q (fun a => zfl (zF (zYo k) i) (fun ci kf fk => fk = 1 ∧ zYi k = true ∧ zYo k = ci ∧ zob (M a) ci (fun fs => zgv (zg fs kf) (fun _ => K u (pc + 3) ls r (zup M a (.inl (ci, zst fs kf (.inr (.inl (some b))))))))))))
    | _ => False)
  | .arraylength => len = 1 ∧ zpr st (fun q r => zps q (fun a => zln (M a) (fun n => K u (pc + 1) ls (.inl (n : Int) :: r) M)))
  | .iaload => len = 1 ∧ zpi st (fun i r => zpr r (fun q r => zps q (fun a => zar (M a) 0 i (fun _ f => K u (pc + 1) ls (.inl (f i.toNat) :: r) M))))
  | .baload => len = 1 ∧ zpi st (fun i r => zpr r (fun q r => zps q (fun a => zar (M a) 1 i (fun _ f => K u (pc + 1) ls (.inl (f i.toNat) :: r) M))))
  | .aaload => len = 1 ∧ zpi st (fun i r => zpr r (fun q r => zps q (fun a => zqr (M a) i (fun _ _ f => K u (pc + 1) ls (.inr (.inl (f i.toNat)) :: r) M))))
  | .iastore => len = 1 ∧ zpi st (fun x r => zpi r (fun i r => zpr r (fun q r => zps q (fun a => zar (M a) 0 i (fun n f => K u (pc + 1) ls r (zup M a (.inr (0, n, .inl (zu f i.toNat x)))))))))
  | .bastore => len = 1 ∧ zpi st (fun x r => zpi r (fun i r => zpr r (fun q r => zps q (fun a => zar (M a) 1 i (fun n f => x = 1 ∧ K u (pc + 1) ls r (zup M a (.inr (1, n, .inl (zu f i.toNat x)))))))))
  | .aastore => len = 1 ∧ zpr st (fun v r => zps v (fun b => zpi r (fun i r => zpr r (fun q r => zps q (fun a => zqr (M a) i (fun t n f => zob (M b) (t + 2) (fun _ => K u (pc + 1) ls r (zup M a (.inr (t, n, .inr (zu f i.toNat (some b))))))))))))
  | .new i => len = 3 ∧ znx (zNc (zYo k) i) (fun ci => u.1 + 1 ≤ Rc ∧ u.2 + zNf ci ≤ Rs ∧ ∀ nx : Nat, lo ≤ nx → (∀ q, lo ≤ q → (M q ≠ none ↔ q < nx)) → KC (u.1 + 1, u.2 + zNf ci) (pc + 3) ls (.inr (.inl (some nx)) :: st) (zup M nx (.inl (ci, zDf ci))))
  | .newarray t => len = 2 ∧ zpi st (fun n r => zat t (fun t => 0 ≤ n ∧ n ≤ 100000 ∧ u.1 + 1 ≤ Rc ∧ u.2 + n.toNat ≤ Rs ∧ ∀ nx : Nat, lo ≤ nx → (∀ q, lo ≤ q → (M q ≠ none ↔ q < nx)) → KC (u.1 + 1, u.2 + n.toNat) (pc + 2) ls (.inr (.inl (some nx)) :: r) (zup M nx (.inr (t, n.toNat, .inl (fun _ => 0))))))
  | .anewarray i => len = 3 ∧ zpi st (fun n r => znx (zNc (zYo k) i) (fun ci => (ci = 4 ∨ ci = 5) ∧ 0 ≤ n ∧ n ≤ 100000 ∧ u.1 + 1 ≤ Rc ∧ u.2 + n.toNat ≤ Rs ∧ ∀ nx : Nat, lo ≤ nx → (∀ q, lo ≤ q → (M q ≠ none ↔ q < nx)) → KC (u.1 + 1, u.2 + n.toNat) (pc + 3) ls (.inr (.inl (some nx)) :: r) (zup M nx (.inr (ci - 2, n.toNat, .inr (fun _ => none))))))
  | .invokevirtual i => len = 3 ∧ zcr (zCl (zYo k) i) 0 (fun y n mc ms => zsp n [] st (fun as r => zpr r (fun q r => zps q (fun a => zob (M a) (zYo y) (fun _ => zcs r ≤ 8 ∧ u.1 + mc ≤ Rc ∧ u.2 + ms ≤ Rs ∧ zdp d (fun d => zCt lo d y mc ms (.inr (.inl (some a)) :: as) M (fun rv M' => KC (u.1 + mc, u.2 + ms) (pc + 3) ls (zpu rv r) M'))))))) False
  | .invokestatic i => len = 3 ∧ zcr (zCl (zYo k) i) 1 (fun y n mc ms => zsp n [] st (fun as r => zcs r ≤ 8 ∧ u.1 + mc ≤ Rc ∧ u.2 + ms ≤ Rs ∧ zdp d (fun d => zCt lo d y mc ms as M (fun rv M' => KC (u.1 + mc, u.2 + ms) (pc + 3) ls (zpu rv r) M'))))
      (zAk (zYo k) i = true ∧ zpi st (fun n r => zpi r (fun dp r => zpr r (fun q r => zps q (fun a => zpi r (fun sp r => zpr r (fun q r => zps q (fun a0 => a ≠ a0 ∧ zar (M a0) 0 0 (fun n0 f => zar (M a) 0 0 (fun n1 g => 0 ≤ sp ∧ 0 ≤ dp ∧ 0 ≤ n ∧ sp + n ≤ (n0 : Int) ∧ dp + n ≤ (n1 : Int) ∧ zcs r ≤ 8 ∧ zdp d (fun _ => K u (pc + 3) ls r (zup M a (.inr (0, n1, .inl (zcp f g sp.toNat dp.toNat n.toNat)))))))))))))))
  | .invokespecial i => len = 3 ∧ zcr (zCl (zYo k) i) 2 (fun y n mc ms => zsp n [] st (fun as r => zpr r (fun q r => zps q (fun a => zcs r ≤ 8 ∧ u.1 + mc ≤ Rc ∧ u.2 + ms ≤ Rs ∧ zdp d (fun d => zCt lo d y mc ms (.inr (.inl (some a)) :: as) M (fun rv M' => KC (u.1 + mc, u.2 + ms) (pc + 3) ls (zpu rv r) M'))))))
      (zOk (zYo k) i = true ∧ zpr st (fun q r => zps q (fun _ => zcs r ≤ 8 ∧ zdp d (fun _ => K u (pc + 3) ls r M))))
  | .ireturn => len = 1 ∧ zpi st (fun z r => zmt r (zrt (zYr k) (Rt (some (.inl z)) u M) ((z = 0 ∨ z = 1) ∧ Rt (some (.inl z)) u M)))
  | .areturn => len = 1 ∧ zpr st (fun z r => zmt r (zro (zYr k) (Rt (some (.inr (.inl z))) u M)))
  | .return_ => len = 1 ∧ zmt st (zrv (zYr k) (Rt none u M))
  | _ => False
