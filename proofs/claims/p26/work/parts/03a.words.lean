-- the tables' words: what stands at their places
def zTW : List Cond := lw_tbl.filter goodWord
def zNest : Cond → Bool
  | .fieldLinkNest .. => true
  | .methodLinkNest .. => true
  | _ => false
def zNw : List Cond := lw_tbl.filter zNest
def zW (k : zY) : List Cond := Cond.code (zYn k) (zYb k) (zYl k) (zYr k) :: zTW
def zWd (p : Nat) (w : Cond) : Bool := decide (lw_tbl[p]? = some w)
theorem zWd_in {p : Nat} {w : Cond} (h : zWd p w = true) : w ∈ lw_tbl := List.mem_of_getElem? (of_decide_eq_true h)
theorem zWd_tw {p : Nat} {w : Cond} (h : zWd p w = true) (hg : goodWord w = true) : w ∈ zTW := List.mem_filter.mpr ⟨zWd_in h, hg⟩
theorem zWd_nw {p : Nat} {w : Cond} (h : zWd p w = true) (hg : zNest w = true) : w ∈ zNw := List.mem_filter.mpr ⟨zWd_in h, hg⟩
/-- fields -/
def zFc (x : (Nat × Nat) × (Nat × Nat × Nat) × (Nat × Nat)) : Bool :=
  match vwCl[x.2.1.1]? with
  | none => false
  | some q =>
    let T := q.2.1
    let kf := x.2.1.2.1
    decide (kf < q.2.2) && decide ((T kf).1 = q.1) &&
    (if x.2.2.1 = 1 then zWd x.2.2.2 (.fieldLinkNest (zCn x.1.1) x.1.2 q.1 (T kf).2.1 (T kf).2.2.1 "SeamReadings")
     else zWd x.2.2.2 (.fieldLink (zCn x.1.1) x.1.2 q.1 (T kf).2.1 (T kf).2.2.1)) &&
    (if x.2.1.2.2 = 0 then decide (parseFieldDescriptor (T kf).2.2.1 = some .int) && !(T kf).2.2.2
     else decide (x.2.1.2.2 = 1) && (T kf).2.2.2 && (match parseFieldDescriptor (T kf).2.2.1 with | some (.array _) => true | some (.object _) => true | _ => false))
set_option maxRecDepth 100000 in
theorem zFc_ok : zFt.all zFc = true := by decide +kernel
set_option maxRecDepth 100000 in
theorem zIn_ok : vwCl.all (fun q => (u_ws q.1 q.2.1 q.2.2).all (fun w => decide (w ∈ lw_tbl) && goodWord w)) = true := by decide +kernel
theorem zIn {ci : Nat} {q : vw_C} (h : vwCl[ci]? = some q) : ∀ w ∈ u_ws q.1 q.2.1 q.2.2, w ∈ zTW := by
  intro w hw
  have h1 := List.all_eq_true.mp (List.all_eq_true.mp zIn_ok q (List.mem_of_getElem? h)) w hw
  simp only [Bool.and_eq_true, decide_eq_true_eq] at h1
  exact List.mem_filter.mpr ⟨h1.1, h1.2⟩
theorem zTy {ci : Nat} {q : vw_C} (h : vwCl[ci]? = some q) : ∃ ty : Nat → FieldType, (∀ k, k < q.2.2 → parseFieldDescriptor (q.2.1 k).2.2.1 = some (ty k)) ∧ (∀ a, a < q.2.2 → ∀ b, b < q.2.2 → a ≠ b → (q.2.1 a).2.1 ≠ (q.2.1 b).2.1) := by
  match ci, h with
  | 0, h => cases h; exact ⟨tyX0, tyX0_ok, nmX0⟩
  | 1, h => cases h; exact ⟨tyX1, tyX1_ok, nmX1⟩
  | 2, h => cases h; exact ⟨tyX2, tyX2_ok, nmX2⟩
  | 3, h => cases h; exact ⟨tyX3, tyX3_ok, nmX3⟩
  | 4, h => cases h; exact ⟨tyX4, tyX4_ok, nmX4⟩
  | 5, h => cases h; exact ⟨tyX5, tyX5_ok, nmX5⟩
  | 6, h => cases h; exact ⟨tyX6, tyX6_ok, nmX6⟩
  | n + 7, h => simp [vwCl] at h
/-- calls -/
def zCc (x : zCE) : Bool :=
  let o := zCn x.1.1
  let idx := x.1.2
  let kd := x.2.1
  let k := zKey x.2.2.2.1
  let y := zYn k
  let p := x.2.2.2.2.2.2
  (if x.2.2.1 = 1 then zWd p.1 (.methodLinkNest o idx y "SeamReadings") else zWd p.1 (.methodLink o idx y)) &&
  (if kd = 1 then zWd p.2.1 (.static y) else zWd p.2.1 (.instanceMethod y)) &&
  (if kd = 0 then zWd p.2.2.1 (.selects y.cls y y) else true) &&
  (if kd = 2 then decide (y.name = "<init>") && decide (zYr k = none) else true) &&
  zWd p.2.2.2 (.initialized y.cls) &&
  decide (y.cls ≠ "java/lang/invoke/MethodHandle") && decide (y.cls ≠ "java/lang/invoke/VarHandle") &&
  decide ((parseMethodDescriptor y.desc).map (fun d => d.parameters.length) = some x.2.2.2.2.1) &&
  decide (zYl k ≤ 30) && decide (y.cls = zCn (zYo k)) && (if kd = 1 then true else decide ((vwCl[zYo k]?).map (fun q => q.1) = some y.cls)) &&
  (if x.2.2.1 = 1 then true else if kd = 1 then decide (y.cls = o) else true)
set_option maxRecDepth 100000 in
theorem zCc_0 : zCt0.all zCc = true := by decide +kernel
set_option maxRecDepth 100000 in
theorem zCc_1 : zCt1.all zCc = true := by decide +kernel
set_option maxRecDepth 100000 in
theorem zCc_2 : zCt2.all zCc = true := by decide +kernel
set_option maxRecDepth 100000 in
theorem zCc_3 : zCt3.all zCc = true := by decide +kernel
set_option maxRecDepth 100000 in
theorem zCc_4 : zCt4.all zCc = true := by decide +kernel
set_option maxRecDepth 100000 in
theorem zCc_5 : zCt5.all zCc = true := by decide +kernel
theorem zCc_ok : zCtA.all zCc = true := by simp only [zCtA, List.all_append, zCc_0, zCc_1, zCc_2, zCc_3, zCc_4, zCc_5, Bool.and_self]
set_option maxRecDepth 100000 in
theorem zOc_ok : (zOt.all (fun x => zWd x.2 (.methodLink (zCn x.1.1) x.1.2 Lib.objectInit)) && zWd zOp.1 (.instanceMethod Lib.objectInit) && zWd zOp.2 (.code Lib.objectInit ⟨#[0xb1]⟩ 1 none)) = true := by decide +kernel
set_option maxRecDepth 100000 in
theorem zAc_ok : (zAt.all (fun x => zWd x.2 (.methodLink (zCn x.1.1) x.1.2 arraycopyName)) && zWd zAp.1 (.native arraycopyName) && zWd zAp.2.1 (.static arraycopyName) && zWd zAp.2.2 (.initialized "java/lang/System")) = true := by decide +kernel
def zNcc (x : (Nat × Nat) × Nat × (Nat × Nat × Nat)) : Bool :=
  match vwCl[x.2.1]? with
  | none => false
  | some q => zWd x.2.2.1 (.classLink (zCn x.1.1) x.1.2 q.1) && zWd x.2.2.2.1 (.instantiable q.1 q.2.2) && zWd x.2.2.2.2 (.initialized q.1) && decide (zNf x.2.1 = q.2.2)
set_option maxRecDepth 100000 in
theorem zNc_ok : zNt.all zNcc = true := by decide +kernel
set_option maxRecDepth 100000 in
theorem zLc_ok : zLt.all (fun x => zWd x.2.2 (.constantLong (zCn x.1.1) x.1.2 x.2.1)) = true := by decide +kernel
set_option maxRecDepth 100000 in
theorem zArr_ok : (zWd zArr.1 (.arrayClass .int) && zWd zArr.2.1 (.arrayClass .boolean) && zWd zArr.2.2.1 (.arrayOver (.object "SeamReadings$Scroll")) && zWd zArr.2.2.2.1 (.arrayOver (.object "SeamReadings$Shelf")) && zWd zArr.2.2.2.2 (.arrayClass .long)) = true := by decide +kernel
set_option maxRecDepth 100000 in
theorem zIc_ok : zIt.all (fun x => zWd x.2.2 (.constant (zCn x.1.1) x.1.2 x.2.1)) = true := by decide +kernel
