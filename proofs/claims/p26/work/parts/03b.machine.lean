-- A PURE PICTURE of the machine: numbers, references and longs; cells; one judgement zRn a method
abbrev zV : Type := Int ⊕ (Option Nat ⊕ Int64)
def tv (v : zV) : Value := match v with
  | .inl z => .int (Int32.ofInt z)
  | .inr (.inl r) => va_rf r
  | .inr (.inr x) => .long x
abbrev zC : Type := (Nat × List zV) ⊕ (Nat × Nat × ((Nat → Int) ⊕ (Nat → Option Nat)))
abbrev zM : Type := Nat → Option zC
def zup (M : zM) (a : Nat) (c : zC) : zM := fun q => if q = a then some c else M q
def zu {α : Type} (f : Nat → α) (k : Nat) (v : α) : Nat → α := fun j => if j = k then v else f j
def zcp (f g : Nat → Int) (sp dp n : Nat) : Nat → Int := fun k => if dp ≤ k ∧ k < dp + n then f (sp + (k - dp)) else g k
def zEi (cA : Nat → ClassId) (t n : Nat) (f : Nat → Int) : va_E := match t with
  | 4 => .inl (cA 4, n, .inr (.inl (fun j => Int64.ofInt (f j))))
  | 5 => .inl (cA 0, n, .inl (fun j => Int32.ofInt (f j)))
  | t => .inl (cA t, n, .inl (fun j => Int32.ofInt (f j)))
def zE (cA : Nat → ClassId) (c : zC) : va_E := match c with
  | .inl (ci, fs) => .inr (ci, fs.map tv)
  | .inr (t, n, .inl f) => zEi cA t n f
  | .inr (t, n, .inr f) => .inl (cA t, n, .inr (.inr (.inr (.inr f))))
def zT (cA : Nat → ClassId) : List (ClassId × FieldType) := [(cA 0, .int), (cA 1, .boolean), (cA 2, .object "SeamReadings$Scroll"), (cA 3, .object "SeamReadings$Shelf"), (cA 4, .long)]
/-- the class of the row that is only read -/
def zK5 (cA : Nat → ClassId) (U : State) : Prop := ∀ cell : Cell, cell.cls = cA 5 → (∀ k, cell.vm ≠ .statics k) → U.isArrayOf cell .int
def zK (D : va_G) (cA : Nat → ClassId) (U : State) : Prop := va_K D vwCl (zT cA) U ∧ (∀ w ∈ zNw, va_Nw w U) ∧ va_AO "SeamReadings$Scroll" U ∧ va_AO "SeamReadings$Shelf" U ∧ zK5 cA U
/-- a row of ints that the method may only read -/
def zk5 (c : zC) : Bool := match c with
  | .inr (t, _, .inl _) => t == 5
  | _ => false
/-- what is known of it -/
def zS5 (cA : Nat → ClassId) (q n : Nat) (f : Nat → Int) (H : Heap) : Prop := ∃ cell : Cell, H[q]? = some cell ∧ cell.cls = cA 5 ∧ (∀ k, cell.vm ≠ .statics k) ∧ cell.vm ≠ .unknown ∧ cell.slots.size = n ∧ ∀ j, j < n → cell.slots[j]? = some (.int (Int32.ofInt (f j)))
def zQt (D : va_G) (cA : Nat → ClassId) (q : Nat) (c : zC) (H : Heap) : Prop := (zk5 c = false → va_at D vwCl (q, zE cA c) H) ∧ ∀ n f, c = .inr (5, n, .inl f) → zS5 cA q n f H
theorem zQt.kept {D : va_G} {cA : Nat → ClassId} {q : Nat} {c : zC} {H H1 : Heap} (h : zQt D cA q c H) (hq : H1[q]? = H[q]?) : zQt D cA q c H1 := by
  refine ⟨fun k => (h.1 k).kept hq, fun n f e => ?_⟩
  obtain ⟨cell, h1, h2⟩ := h.2 n f e
  exact ⟨cell, by rw [hq]; exact h1, h2⟩
theorem zQt.of {D : va_G} {cA : Nat → ClassId} {q : Nat} {c : zC} {H : Heap} (he : va_at D vwCl (q, zE cA c) H) (hk : zk5 c = false) : zQt D cA q c H := by
  refine ⟨fun _ => he, fun n f e => ?_⟩
  subst e
  cases hk
def zH (D : va_G) (cA : Nat → ClassId) (lo : Nat) (M : zM) (H : Heap) : Prop := lo ≤ H.size ∧ (∀ q, lo ≤ q → (M q ≠ none ↔ q < H.size)) ∧ (∀ q c, M q = some c → zQt D cA q c H) ∧ ∀ q c, q < lo → M q = some c → zk5 c = true
def zR (d mc ms : Nat) : Room := { frames := d, cells := mc, slots := ms, locals := 60 * d }
def zPre (D : va_G) (cA : Nat → ClassId) (lo : Nat) (as : List zV) (M : zM) : Array Value → State → Prop := va_Pc (as.map tv) (fun U => zH D cA lo M U.heap ∧ zK D cA U)
def zPost (D : va_G) (cA : Nat → ClassId) (lo : Nat) (Q : Option zV → zM → Prop) : Array Value → State → Outcome → State → Prop := fun _ st oc t => (∃ (r : Option zV) (M' : zM), oc = .returned (r.map tv) ∧ Q r M' ∧ zH D cA lo M' t.heap) ∧ va_F (fun q => lo ≤ q) st t
/-- THE CONTRACT: from memory M, with these arguments, the method returns, and Q holds of its answer and of the memory behind it -/
def zCt (lo d : Nat) (k : zY) (mc ms : Nat) (as : List zV) (M : zM) (Q : Option zV → zM → Prop) : Prop :=
  ∀ (l : Launch) (D : va_G) (cA : Nat → ClassId), Met l (zYn k) (zW k) (zR d mc ms) (zPre D cA lo as M) (zPost D cA lo Q) mc ms (fun q => lo ≤ q)
-- locals
def zg {α : Type} : List α → Nat → Option α
  | [], _ => none
  | a :: _, 0 => some a
  | _ :: l, n + 1 => zg l n
def zst {α : Type} : List α → Nat → α → List α
  | [], _, _ => []
  | _ :: l, 0, v => v :: l
  | a :: l, n + 1, v => a :: zst l n v
def zAs : Nat → List (Option zV) → List (Nat × Value)
  | _, [] => []
  | i, none :: r => zAs (i + 1) r
  | i, some v :: r => (i, tv v) :: zAs (i + 1) r
def zLs (lsA : Array Slot) (n : Nat) (ls : List (Option zV)) : Prop := ls.length = n ∧ lv_has lsA n (zAs 0 ls)
def zEa : List zV → List (Option zV)
  | [] => []
  | .inr (.inr x) :: r => some (.inr (.inr x)) :: none :: zEa r
  | .inr (.inl x) :: r => some (.inr (.inl x)) :: zEa r
  | .inl x :: r => some (.inl x) :: zEa r
def zEn (as : List zV) (n : Nat) : List (Option zV) := zEa as ++ List.replicate (n - (zEa as).length) none
def zCx (lo d : Nat) (Rm : Room) (k : zY) (p : Program) (s : State) (m : MethodId) (args : Array Value) (meth : Method) (c : Code) (D : va_G) (cA : Nat → ClassId) : Prop :=
  p.tables.exec = Jvm.exec ∧ c.code = zYb k ∧ meth.sig.returnType = zYr k ∧ c.maxLocals = zYl k ∧ s.vm.findClass (zCn (zYo k)) = some m.cls ∧ meth.locks = false ∧ meth.name = (zYn k).name ∧ (∀ w ∈ zTW, w.before args s = true) ∧ zK D cA s ∧ d ≤ Rm.frames ∧ 60 * d ≤ Rm.locals ∧ lo ≤ s.heap.size
/-- where a method stands: at pc, with these locals, this stack, this memory, it comes to its end Fn -/
def zRn (lo d : Nat) (Rm : Room) (k : zY) (Fn : List Frame → Array Value → State → va_G → (Nat → ClassId) → State → Prop) (u : Nat × Nat) (pc : Nat) (ls : List (Option zV)) (st : List zV) (M : zM) : Prop :=
  ∀ (p : Program) (l : Launch) (e : Env) (s : State) (m : MethodId) (args : Array Value) (below : List Frame) (meth : Method) (c : Code) (D : va_G) (cA : Nat → ClassId), zCx lo d Rm k p s m args meth c D cA →
    ∀ (H : Heap) (locs : List Loc) (lsA : Array Slot), zH D cA lo M H → va_S (fun q => lo ≤ q) s.heap H locs → zLs lsA (zYl k) ls → W p l e Rm s m args below meth c H locs u.1 u.2 (Fn below args s D cA) (F0 m pc lsA (st.map tv))
def zFn (lo mc ms : Nat) (Q : Option zV → zM → Prop) : List Frame → Array Value → State → va_G → (Nat → ClassId) → State → Prop := fun below args s D cA => MQ below (zPost D cA lo Q) args s mc ms (fun q => lo ≤ q)
-- facts about numbers
theorem zToInt {z : Int} (h1 : -2147483648 ≤ z) (h2 : z < 2147483648) : (Int32.ofInt z).toInt = z := Int32.toInt_ofInt_of_le (by omega) (by omega)
theorem zClamp {z : Int} (h1 : 0 ≤ z) (h2 : z < 2147483648) : (Int32.ofInt z).toNatClampNeg = z.toNat := Int32.toNatClampNeg_ofInt_of_le (by omega) (by omega)
theorem zNotNeg {z : Int} (h1 : 0 ≤ z) (h2 : z < 2147483648) : ¬ Int32.ofInt z < 0 := by
  rw [Int32.lt_iff_toInt_lt, zToInt (by omega) h2, Int32.toInt_zero]
  omega
theorem zIdx {i : Int} {n : Nat} (h0 : 0 ≤ i) (h1 : i < (n : Int)) (h2 : n < 2147483648) : vp_in (Int32.ofInt i) n := by
  intro h
  rcases h with h | h
  · exact zNotNeg h0 (by omega) h
  · rw [zClamp h0 (by omega)] at h
    omega
-- facts about locals
theorem zg_mem {α : Type} : ∀ {l : List α} {k : Nat} {v : α}, zg l k = some v → l[k]? = some v
  | [], _, _, h => by cases h
  | a :: l, 0, v, h => by simpa [zg] using h
  | a :: l, n + 1, v, h => by simpa [zg] using zg_mem (l := l) h
theorem zg_of {α : Type} : ∀ {l : List α} {k : Nat} {v : α}, l[k]? = some v → zg l k = some v
  | [], _, _, h => by simp at h
  | a :: l, 0, v, h => by simpa [zg] using h
  | a :: l, n + 1, v, h => by simpa [zg] using zg_of (l := l) (by simpa using h)
theorem zg_lt {α : Type} {l : List α} {k : Nat} {v : α} (h : zg l k = some v) : k < l.length := (List.getElem?_eq_some_iff.mp (zg_mem h)).1
theorem zst_len {α : Type} : ∀ (l : List α) (k : Nat) (v : α), (zst l k v).length = l.length
  | [], _, _ => rfl
  | _ :: _, 0, _ => rfl
  | _ :: l, n + 1, v => by simp [zst, zst_len l n v]
theorem zst_eq {α : Type} : ∀ (l : List α) (k : Nat) (v : α), zst l k v = l.set k v
  | [], _, _ => by simp [zst]
  | _ :: _, 0, _ => by simp [zst]
  | _ :: l, n + 1, v => by simp [zst, zst_eq l n v]
theorem zAs_mem : ∀ {i : Nat} {ls : List (Option zV)} {q : Nat × Value}, q ∈ zAs i ls ↔ ∃ (j : Nat) (v : zV), ls[j]? = some (some v) ∧ q = (i + j, tv v)
  | i, [], q => by simp [zAs]
  | i, none :: r, q => by
    rw [zAs, zAs_mem (ls := r)]
    constructor
    · rintro ⟨j, v, h, rfl⟩
      exact ⟨j + 1, v, by simpa using h, by simp; omega⟩
    · rintro ⟨j, v, h, rfl⟩
      cases j with
      | zero => simp at h
      | succ j => exact ⟨j, v, by simpa using h, by simp; omega⟩
  | i, some w :: r, q => by
    rw [zAs, List.mem_cons, zAs_mem (ls := r)]
    constructor
    · rintro (rfl | ⟨j, v, h, rfl⟩)
      · exact ⟨0, w, by simp, by simp⟩
      · exact ⟨j + 1, v, by simpa using h, by simp; omega⟩
    · rintro ⟨j, v, h, rfl⟩
      cases j with
      | zero => simp at h; subst h; exact Or.inl (by simp)
      | succ j => exact Or.inr ⟨j, v, by simpa using h, by simp; omega⟩
theorem zLs_at {lsA : Array Slot} {n k : Nat} {ls : List (Option zV)} {v : zV} (h : zLs lsA n ls) (hk : zg ls k = some (some v)) : lsA[k]? = some (.val (tv v)) := by
  have := h.2.2.2 (0 + k, tv v) (zAs_mem.mpr ⟨k, v, zg_mem hk, rfl⟩)
  simpa using this
theorem zcat_long {v : zV} (h : (tv v).category = 2) : ∃ x, v = .inr (.inr x) := by
  match v, h with
  | .inl z, h => simp [tv, Value.category] at h
  | .inr (.inl none), h => simp [tv, va_rf, Value.category] at h
  | .inr (.inl (some a)), h => simp [tv, va_rf, Value.category] at h
  | .inr (.inr x), _ => exact ⟨x, rfl⟩
/-- before place k stands no long -/
def zlk (ls : List (Option zV)) (k : Nat) : Prop := match k with
  | 0 => True
  | k + 1 => match zg ls k with
    | some (some (.inr (.inr _))) => False
    | _ => True
theorem zlk_no {ls : List (Option zV)} {k : Nat} {x : Int64} (h : zlk ls (k + 1)) : ls[k]? ≠ some (some (.inr (.inr x))) := by
  intro hk
  have := zg_of hk
  simp [zlk, this] at h
theorem zLs_st1 {lsA lsB : Array Slot} {n k : Nat} {ls : List (Option zV)} {v : zV} (h : zLs lsA n ls) (hk : zlk ls k) (hl : lv_has lsB n ((k, tv v) :: (zAs 0 ls).filter (fun q => !(q.1 == k) && !(q.1 + 1 == k && q.2.category == 2)))) : zLs lsB n (zst ls k (some v)) := by
  refine ⟨by rw [zst_len]; exact h.1, hl.1, hl.2.1, fun q hq => ?_⟩
  obtain ⟨j, w, hj, rfl⟩ := zAs_mem.mp hq
  rw [zst_eq] at hj
  by_cases hjk : j = k
  · subst hjk
    have hlt : j < ls.length := by
      have := (List.getElem?_eq_some_iff.mp hj).1
      simpa using this
    rw [List.getElem?_set_self hlt] at hj
    cases hj
    exact hl.2.2 _ (by rw [Nat.zero_add]; exact List.mem_cons_self)
  · rw [List.getElem?_set_ne (Ne.symm hjk)] at hj
    refine hl.2.2 _ (List.mem_cons_of_mem _ (List.mem_filter.mpr ⟨zAs_mem.mpr ⟨j, w, hj, rfl⟩, ?_⟩))
    simp only [Nat.zero_add, Bool.and_eq_true, Bool.not_eq_true', beq_eq_false_iff_ne, ne_eq, hjk, not_false_eq_true, true_and, Bool.and_eq_false_imp, beq_iff_eq]
    intro hj1 hc
    obtain ⟨x, rfl⟩ := zcat_long hc
    subst hj1
    exact zlk_no hk hj
theorem zLs_st2 {lsA lsB : Array Slot} {n k : Nat} {ls : List (Option zV)} {x : Int64} (h : zLs lsA n ls) (hk : zlk ls k) (hl : lv_has lsB n ((k, Value.long x) :: (zAs 0 ls).filter (fun q => !(q.1 == k) && (!(q.1 == k + 1) && !(q.1 + 1 == k && q.2.category == 2))))) : zLs lsB n (zst (zst ls k (some (.inr (.inr x)))) (k + 1) none) := by
  refine ⟨by rw [zst_len, zst_len]; exact h.1, hl.1, hl.2.1, fun q hq => ?_⟩
  obtain ⟨j, w, hj, rfl⟩ := zAs_mem.mp hq
  rw [zst_eq, zst_eq] at hj
  by_cases hj2 : j = k + 1
  · subst hj2
    have hlt : k + 1 < (ls.set k (some (Sum.inr (Sum.inr x)))).length := by
      have := (List.getElem?_eq_some_iff.mp hj).1
      simpa using this
    rw [List.getElem?_set_self hlt] at hj
    cases hj
  · rw [List.getElem?_set_ne (Ne.symm hj2)] at hj
    by_cases hjk : j = k
    · subst hjk
      have hlt : j < ls.length := by
        have := (List.getElem?_eq_some_iff.mp hj).1
        simpa using this
      rw [List.getElem?_set_self hlt] at hj
      cases hj
      exact hl.2.2 _ (by rw [Nat.zero_add]; exact List.mem_cons_self)
    · rw [List.getElem?_set_ne (Ne.symm hjk)] at hj
      refine hl.2.2 _ (List.mem_cons_of_mem _ (List.mem_filter.mpr ⟨zAs_mem.mpr ⟨j, w, hj, rfl⟩, ?_⟩))
      simp only [Nat.zero_add, Bool.and_eq_true, Bool.not_eq_true', beq_eq_false_iff_ne, ne_eq, hjk, hj2, not_false_eq_true, true_and, Bool.and_eq_false_imp, beq_iff_eq]
      intro hj1 hc
      obtain ⟨y, rfl⟩ := zcat_long hc
      subst hj1
      exact zlk_no hk hj
theorem zEa_args : ∀ (as : List zV) (i : Nat) (r : List (Option zV)), (∀ o ∈ r, o = none) → zAs i (zEa as ++ r) = lv_args i (as.map tv)
  | [], i, r, hr => by
    show zAs i r = []
    induction r generalizing i with
    | nil => rfl
    | cons o r ih =>
      rw [hr o List.mem_cons_self]
      exact ih (i + 1) (fun o h => hr o (List.mem_cons_of_mem _ h))
  | .inl z :: as, i, r, hr => by
    show (i, tv (.inl z)) :: zAs (i + 1) (zEa as ++ r) = _
    rw [zEa_args as (i + 1) r hr]
    rfl
  | .inr (.inl none) :: as, i, r, hr => by
    show (i, tv (.inr (.inl none))) :: zAs (i + 1) (zEa as ++ r) = _
    rw [zEa_args as (i + 1) r hr]
    rfl
  | .inr (.inl (some a)) :: as, i, r, hr => by
    show (i, tv (.inr (.inl (some a)))) :: zAs (i + 1) (zEa as ++ r) = _
    rw [zEa_args as (i + 1) r hr]
    rfl
  | .inr (.inr x) :: as, i, r, hr => by
    show (i, tv (.inr (.inr x))) :: zAs (i + 1 + 1) (zEa as ++ r) = _
    rw [zEa_args as (i + 1 + 1) r hr]
    rfl
theorem zEa_len : ∀ (as : List zV), (lg_sl (as.map tv)).length = (zEa as).length
  | [] => rfl
  | .inl z :: as => by
    have := zEa_len as
    simp [lg_sl, zEa, tv, Value.category] at this ⊢
    exact this
  | .inr (.inl none) :: as => by
    have := zEa_len as
    simp [lg_sl, zEa, tv, va_rf, Value.category] at this ⊢
    exact this
  | .inr (.inl (some a)) :: as => by
    have := zEa_len as
    simp [lg_sl, zEa, tv, va_rf, Value.category] at this ⊢
    exact this
  | .inr (.inr x) :: as => by
    have := zEa_len as
    simp [lg_sl, zEa, tv, Value.category] at this ⊢
    omega
theorem zEn_ls {as : List zV} {n : Nat} (h : (zEa as).length ≤ n) : zLs ((lg_sl (as.map tv) ++ List.replicate (n - (lg_sl (as.map tv)).length) Slot.unset).toArray) n (zEn as n) := by
  have h1 := lv_entry (as.map tv) (n := n) (by rw [zEa_len]; exact h)
  refine ⟨by simp [zEn]; omega, ?_⟩
  rw [zEn, zEa_args as 0 _ (fun o ho => List.eq_of_mem_replicate ho)]
  exact h1
-- the entry
theorem zK_blind {D : va_G} {cA : Nat → ClassId} {u U : State} (h : u.vm = U.vm) (hK : zK D cA u) : zK D cA U := by
  have ha : u.vm.Alike U.vm := h ▸ Vm.Alike.refl u.vm
  refine ⟨va_K.moved ha hK.1, fun w hw => ?_, va_AO.moved ha hK.2.2.1, va_AO.moved ha hK.2.2.2.1, fun cell g1 g2 => State.isArrayOf_alike ha (hK.2.2.2.2 cell g1 g2)⟩
  have hn := (List.mem_filter.mp hw).2
  have h1 := hK.2.1 w hw
  cases w <;> first | exact va_Nw.same rfl h h1 | (simp [zNest] at hn)
theorem zK_warm {D : va_G} {cA : Nat → ClassId} {s U : State} (hW : s.WarmedH U.vm) (hK : zK D cA s) : zK D cA U := by
  refine ⟨va_K.moved hW.alike hK.1, fun w hw => ?_, va_AO.moved hW.alike hK.2.2.1, va_AO.moved hW.alike hK.2.2.2.1, fun cell g1 g2 => State.isArrayOf_alike hW.alike (hK.2.2.2.2 cell g1 g2)⟩
  have hn := (List.mem_filter.mp hw).2
  have h1 := hK.2.1 w hw
  cases w <;> first | exact va_Nw.warmF hW h1 | exact va_Nw.warmM hW h1 | (simp [zNest] at hn)
theorem zPre_blind {D : va_G} {cA : Nat → ClassId} {lo : Nat} {as : List zV} {M : zM} : FrameBlind (zPre D cA lo as M) := by
  intro a U g mk h
  exact ⟨h.1, h.2.1, zK_blind (u := U) (U := U.calling g mk a) rfl h.2.2⟩
theorem zCt_of {lo d : Nat} {k : zY} {mc ms : Nat} {as : List zV} {M : zM} {Q : Option zV → zM → Prop} (ls : List (Option zV)) (hls : zEn as (zYl k) = ls) (hlen : (zEa as).length ≤ zYl k) (hpl : plainName (zYn k).cls = true) (hcn : (zYn k).cls = zCn (zYo k))
    (h : zRn lo d (zR d mc ms) k (zFn lo mc ms Q) (0, 0) 0 ls [] M) : zCt lo d k mc ms as M Q := by
  intro l D cA
  refine Met.ofW (cc := zYb k) (maxL := zYl k) (ret := zYr k) (ws' := zTW) hpl rfl ?_
  intro p e s m args below meth c s₁ B hml hv
  obtain ⟨rfl, hH, hK⟩ := hv
  have hts := atoms_spec (ws := zW k) B.pre
  have hown : s.vm.findClass (zYn k).cls = some m.cls := findClass_of_methodNamed B.named
  rw [hcn] at hown
  rw [lg_entry_eq]
  exact h p l e s m _ below meth c D cA ⟨B.exec, B.bytes, B.returns, hml, hown, B.notSynchronized, (name_of_methodNamed B.named B.method).1, fun w hw => hts w (List.mem_cons_of_mem _ hw), hK, Nat.le_refl d, Nat.le_refl (60 * d), hH.1⟩ s.heap [] _ hH va_S.rf (hls ▸ zEn_ls hlen)
