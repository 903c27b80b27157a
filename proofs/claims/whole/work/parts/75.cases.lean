theorem xr_ (v : Int32) : zRr v.toInt := ⟨Int32.le_toInt v, Int32.toInt_lt v⟩
theorem clG.keepO {M M' : zM} {x l h : Nat} {A : aS} (hs : clG M x A) (hf : zfr M M' l h) (hd : x + 174 ≤ l ∨ h ≤ x) : clG M' x A := by
  obtain ⟨h1, h2, h3, h4, ⟨g, h5, h6⟩, ⟨B, h7, h8⟩, ⟨h9, h10⟩, h11, h12⟩ := hs
  exact ⟨h1.keep hf (by omega), h2.keep hf (by omega), h3.keep hf (by omega), h4.keep hf (by omega), ⟨g, (hf _ (by omega)).trans h5, h6⟩, ⟨B, (hf _ (by omega)).trans h7, h8⟩, ⟨h9.keep hf (by omega), fun e => (h10 e).keep hf (by omega)⟩, h11.keep hf (by omega), fun e => (h12 e).keep hf (by omega)⟩
theorem mdG.keepO {M M' : zM} {m l h : Nat} {A : aS} (hs : mdG M m A) (hf : zfr M M' l h) (hd : m + 13 ≤ l ∨ h ≤ m) : mdG M' m A := by
  obtain ⟨⟨pt, mn, ln, om, ol, ho⟩, hp, hk⟩ := hs
  exact ⟨⟨pt, mn, ln, om, ol, (hf _ (by omega)).trans ho⟩, hp.keep hf (by omega), hk.fr hf (by omega)⟩
section LC
variable {lo b L x m i : Nat} {xs : Nat → Int32} {u : Nat × Nat} {pc : Nat} {st : List zV} {M : zM} {A : aS}
theorem zr_arg {j : Nat} {jj : Int} (d0 : decode (zYb kL_law) pc = .ok (.aload_n 0, 1)) (d1 : decode (zYb kL_law) (pc + 1) = .ok (.iload_n 3, 1)) (d2 : decode (zYb kL_law) (pc + 2) = .ok (.iconst jj, 1)) (d3 : decode (zYb kL_law) (pc + 3) = .ok (.iadd, 1)) (d4 : decode (zYb kL_law) (pc + 4) = .ok (.iaload, 1)) (hj : jj = (j : Int)) (hi : i + j < L) (hL : L ≤ 2048) (K : zLw lo b L xs u (pc + 5) [some (Sum.inr (Sum.inl (some (b)))), some (Sum.inr (Sum.inl (some (x)))), some (Sum.inr (Sum.inl (some (m)))), some (Sum.inl ((i : Int)))] (.inl (xs (i + j)).toInt :: st) M) : zLw lo b L xs u pc [some (Sum.inr (Sum.inl (some (b)))), some (Sum.inr (Sum.inl (some (x)))), some (Sum.inr (Sum.inl (some (m)))), some (Sum.inl ((i : Int)))] st M := by
  refine zr_aload_n (n := 0) d0 rfl ?_
  refine zr_iload_n (n := 3) d1 rfl ?_
  refine zr_iconst d2 ?_
  refine zr_iadd d3 ?_
  rw [hj, ← Int.natCast_add]
  exact zr_sld d4 hi hL K
theorem lawX {k : Nat} {y : zY} {n : Nat} {args : List zV} {r : aS × Int} {ls : List (Option zV)} (hd : decode (zYb kL_law) pc = .ok (.invokevirtual k, 3)) (hl : zCl 8 k = some (0, y, n, 0, 0)) (hn : args.length = n) (ho : zYo y = 6) (hst : zcs st ≤ 8) (hu : u.1 ≤ 600000 ∧ u.2 ≤ 7302250) (hc : clG M x A) (hp : zPb lo 30 y x args M r) (K : ∀ M', clG M' x r.1 → zfr M M' x (x + 174) → zLw lo b L xs u (pc + 3) ls ((Sum.inl (r.2)) :: st) M') : zLw lo b L xs u pc ls (args.reverse ++ (Sum.inr (Sum.inl (some (x)))) :: st) M := by
  have m0 := hc.1.1
  unfold xO at m0
  rw [← ho] at m0
  refine zr_callV hd hl hn m0 hst hu.1 hu.2 (hp (fun r' M' => r' = some (Sum.inl (r.2)) ∧ clG M' x r.1 ∧ zfr M M' x (x + 174)) (fun M' h1 h2 => ⟨rfl, h1, h2⟩)) (fun r' M' hq => ?_)
  obtain ⟨rfl, h1, h2⟩ := hq
  exact K M' h1 h2
theorem lawM {k : Nat} {y : zY} {n : Nat} {args : List zV} {r : aS × Int} {ls : List (Option zV)} (hd : decode (zYb kL_law) pc = .ok (.invokevirtual k, 3)) (hl : zCl 8 k = some (0, y, n, 0, 0)) (hn : args.length = n) (ho : zYo y = 7) (hst : zcs st ≤ 8) (hu : u.1 ≤ 600000 ∧ u.2 ≤ 7302250) (hc : mdG M m A) (hp : zMb lo 30 y m args M r) (K : ∀ M', mdG M' m r.1 → zfr M M' m (m + 13) → zLw lo b L xs u (pc + 3) ls ((Sum.inl (r.2)) :: st) M') : zLw lo b L xs u pc ls (args.reverse ++ (Sum.inr (Sum.inl (some (m)))) :: st) M := by
  obtain ⟨pt, mn, ln, om, ol, m0⟩ := hc.1
  unfold mOb at m0
  rw [← ho] at m0
  refine zr_callV hd hl hn m0 hst hu.1 hu.2 (hp (fun r' M' => r' = some (Sum.inl (r.2)) ∧ mdG M' m r.1 ∧ zfr M M' m (m + 13)) (fun M' h1 h2 => ⟨rfl, h1, h2⟩)) (fun r' M' hq => ?_)
  obtain ⟨rfl, h1, h2⟩ := hq
  exact K M' h1 h2
theorem lc_sew (hL : L ≤ 2048) (hi : i + 3 < L) (hu : u.1 ≤ 600000 ∧ u.2 ≤ 7302250) (hxm : x + 174 ≤ m) (hc : clG M x A) (hd : mdG M m A) (hw : wfA A) (hK : ∀ M' A', clG M' x A' → mdG M' m A' → wfA A' → (∀ q, (q < x ∨ m + 13 ≤ q) → M' q = M q) → zLw lo b L xs u 839 [some (Sum.inr (Sum.inl (some (b)))), some (Sum.inr (Sum.inl (some (x)))), some (Sum.inr (Sum.inl (some (m)))), some (Sum.inl ((i : Int)))] [] M') : zLw lo b L xs u 140 [some (Sum.inr (Sum.inl (some (b)))), some (Sum.inr (Sum.inl (some (x)))), some (Sum.inr (Sum.inl (some (m)))), some (Sum.inl ((i : Int)))] [] M := by
  refine zr_aload_n (n := 1) eL_law_140 rfl ?_
  refine lawX (args := []) eL_law_141 zC_8_13 rfl rfl (Nat.le_of_ble_eq_true rfl) hu hc (p_sew (d := 18) hc hw) (fun M1 c1 f1 => ?_)
  refine zr_aload_n (n := 2) eL_law_144 rfl ?_
  have d1 := hd.keepO f1 (by omega)
  refine lawM (args := []) eL_law_145 zC_8_17 rfl rfl (Nat.le_of_ble_eq_true rfl) hu d1 (m_sew (d := 22) d1 hw) (fun M2 c2 f2 => ?_)
  refine zr_same eL_law_148 (by decide) ?_
  exact hK M2 _ (c1.keepO f2 (by omega)) c2 (wf_sew hw) (fun q hq => (f2 q (by omega)).trans (f1 q (by omega)))
theorem lc_burn (hL : L ≤ 2048) (hi : i + 3 < L) (hu : u.1 ≤ 600000 ∧ u.2 ≤ 7302250) (hxm : x + 174 ≤ m) (hc : clG M x A) (hd : mdG M m A) (hw : wfA A) (hK : ∀ M' A', clG M' x A' → mdG M' m A' → wfA A' → (∀ q, (q < x ∨ m + 13 ≤ q) → M' q = M q) → zLw lo b L xs u 839 [some (Sum.inr (Sum.inl (some (b)))), some (Sum.inr (Sum.inl (some (x)))), some (Sum.inr (Sum.inl (some (m)))), some (Sum.inl ((i : Int)))] [] M') : zLw lo b L xs u 153 [some (Sum.inr (Sum.inl (some (b)))), some (Sum.inr (Sum.inl (some (x)))), some (Sum.inr (Sum.inl (some (m)))), some (Sum.inl ((i : Int)))] [] M := by
  refine zr_aload_n (n := 1) eL_law_153 rfl ?_
  refine zr_arg (j := 1) eL_law_154 eL_law_155 eL_law_156 eL_law_157 eL_law_158 rfl (by omega) hL ?_
  refine lawX (args := [(Sum.inl ((xs (i + 1)).toInt))]) eL_law_159 zC_8_18 rfl rfl (Nat.le_of_ble_eq_true rfl) hu hc (p_burn (d := 18) hc hw (xr_ _)) (fun M1 c1 f1 => ?_)
  refine zr_aload_n (n := 2) eL_law_162 rfl ?_
  refine zr_arg (j := 1) eL_law_163 eL_law_164 eL_law_165 eL_law_166 eL_law_167 rfl (by omega) hL ?_
  have d1 := hd.keepO f1 (by omega)
  refine lawM (args := [(Sum.inl ((xs (i + 1)).toInt))]) eL_law_168 zC_8_22 rfl rfl (Nat.le_of_ble_eq_true rfl) hu d1 (m_burn (d := 22) d1 hw (xr_ _)) (fun M2 c2 f2 => ?_)
  refine zr_same eL_law_171 (by decide) ?_
  exact hK M2 _ (c1.keepO f2 (by omega)) c2 (wf_burn hw) (fun q hq => (f2 q (by omega)).trans (f1 q (by omega)))
theorem lc_cut (hL : L ≤ 2048) (hi : i + 3 < L) (hu : u.1 ≤ 600000 ∧ u.2 ≤ 7302250) (hxm : x + 174 ≤ m) (hc : clG M x A) (hd : mdG M m A) (hw : wfA A) (hK : ∀ M' A', clG M' x A' → mdG M' m A' → wfA A' → (∀ q, (q < x ∨ m + 13 ≤ q) → M' q = M q) → zLw lo b L xs u 839 [some (Sum.inr (Sum.inl (some (b)))), some (Sum.inr (Sum.inl (some (x)))), some (Sum.inr (Sum.inl (some (m)))), some (Sum.inl ((i : Int)))] [] M') : zLw lo b L xs u 176 [some (Sum.inr (Sum.inl (some (b)))), some (Sum.inr (Sum.inl (some (x)))), some (Sum.inr (Sum.inl (some (m)))), some (Sum.inl ((i : Int)))] [] M := by
  refine zr_aload_n (n := 1) eL_law_176 rfl ?_
  refine zr_arg (j := 1) eL_law_177 eL_law_178 eL_law_179 eL_law_180 eL_law_181 rfl (by omega) hL ?_
  refine zr_arg (j := 2) eL_law_182 eL_law_183 eL_law_184 eL_law_185 eL_law_186 rfl (by omega) hL ?_
  refine zr_arg (j := 3) eL_law_187 eL_law_188 eL_law_189 eL_law_190 eL_law_191 rfl (by omega) hL ?_
  refine lawX (args := [(Sum.inl ((xs (i + 1)).toInt)), (Sum.inl ((xs (i + 2)).toInt)), (Sum.inl ((xs (i + 3)).toInt))]) eL_law_192 zC_8_23 rfl rfl (Nat.le_of_ble_eq_true rfl) hu hc (p_cut (d := 18) hc hw (xr_ _) (xr_ _) (xr_ _)) (fun M1 c1 f1 => ?_)
  refine zr_aload_n (n := 2) eL_law_195 rfl ?_
  refine zr_arg (j := 1) eL_law_196 eL_law_197 eL_law_198 eL_law_199 eL_law_200 rfl (by omega) hL ?_
  refine zr_arg (j := 2) eL_law_201 eL_law_202 eL_law_203 eL_law_204 eL_law_205 rfl (by omega) hL ?_
  refine zr_arg (j := 3) eL_law_206 eL_law_207 eL_law_208 eL_law_209 eL_law_210 rfl (by omega) hL ?_
  have d1 := hd.keepO f1 (by omega)
  refine lawM (args := [(Sum.inl ((xs (i + 1)).toInt)), (Sum.inl ((xs (i + 2)).toInt)), (Sum.inl ((xs (i + 3)).toInt))]) eL_law_211 zC_8_27 rfl rfl (Nat.le_of_ble_eq_true rfl) hu d1 (m_cut (d := 22) d1 hw (xr_ _) (xr_ _) (xr_ _)) (fun M2 c2 f2 => ?_)
  refine zr_same eL_law_214 (by decide) ?_
  exact hK M2 _ (c1.keepO f2 (by omega)) c2 (wf_cut hw) (fun q hq => (f2 q (by omega)).trans (f1 q (by omega)))
theorem lc_undoSeam (hL : L ≤ 2048) (hi : i + 3 < L) (hu : u.1 ≤ 600000 ∧ u.2 ≤ 7302250) (hxm : x + 174 ≤ m) (hc : clG M x A) (hd : mdG M m A) (hw : wfA A) (hK : ∀ M' A', clG M' x A' → mdG M' m A' → wfA A' → (∀ q, (q < x ∨ m + 13 ≤ q) → M' q = M q) → zLw lo b L xs u 839 [some (Sum.inr (Sum.inl (some (b)))), some (Sum.inr (Sum.inl (some (x)))), some (Sum.inr (Sum.inl (some (m)))), some (Sum.inl ((i : Int)))] [] M') : zLw lo b L xs u 219 [some (Sum.inr (Sum.inl (some (b)))), some (Sum.inr (Sum.inl (some (x)))), some (Sum.inr (Sum.inl (some (m)))), some (Sum.inl ((i : Int)))] [] M := by
  refine zr_aload_n (n := 1) eL_law_219 rfl ?_
  refine zr_arg (j := 1) eL_law_220 eL_law_221 eL_law_222 eL_law_223 eL_law_224 rfl (by omega) hL ?_
  refine zr_arg (j := 2) eL_law_225 eL_law_226 eL_law_227 eL_law_228 eL_law_229 rfl (by omega) hL ?_
  refine lawX (args := [(Sum.inl ((xs (i + 1)).toInt)), (Sum.inl ((xs (i + 2)).toInt))]) eL_law_230 zC_8_28 rfl rfl (Nat.le_of_ble_eq_true rfl) hu hc (p_undoSeam (d := 18) hc hw (xr_ _) (xr_ _)) (fun M1 c1 f1 => ?_)
  refine zr_aload_n (n := 2) eL_law_233 rfl ?_
  refine zr_arg (j := 1) eL_law_234 eL_law_235 eL_law_236 eL_law_237 eL_law_238 rfl (by omega) hL ?_
  refine zr_arg (j := 2) eL_law_239 eL_law_240 eL_law_241 eL_law_242 eL_law_243 rfl (by omega) hL ?_
  have d1 := hd.keepO f1 (by omega)
  refine lawM (args := [(Sum.inl ((xs (i + 1)).toInt)), (Sum.inl ((xs (i + 2)).toInt))]) eL_law_244 zC_8_32 rfl rfl (Nat.le_of_ble_eq_true rfl) hu d1 (m_undoSeam (d := 22) d1 hw (xr_ _) (xr_ _)) (fun M2 c2 f2 => ?_)
  refine zr_same eL_law_247 (by decide) ?_
  exact hK M2 _ (c1.keepO f2 (by omega)) c2 (wf_undoSeam hw) (fun q hq => (f2 q (by omega)).trans (f1 q (by omega)))
theorem lc_turn (hL : L ≤ 2048) (hi : i + 3 < L) (hu : u.1 ≤ 600000 ∧ u.2 ≤ 7302250) (hxm : x + 174 ≤ m) (hc : clG M x A) (hd : mdG M m A) (hw : wfA A) (hK : ∀ M' A', clG M' x A' → mdG M' m A' → wfA A' → (∀ q, (q < x ∨ m + 13 ≤ q) → M' q = M q) → zLw lo b L xs u 839 [some (Sum.inr (Sum.inl (some (b)))), some (Sum.inr (Sum.inl (some (x)))), some (Sum.inr (Sum.inl (some (m)))), some (Sum.inl ((i : Int)))] [] M') : zLw lo b L xs u 252 [some (Sum.inr (Sum.inl (some (b)))), some (Sum.inr (Sum.inl (some (x)))), some (Sum.inr (Sum.inl (some (m)))), some (Sum.inl ((i : Int)))] [] M := by
  refine zr_aload_n (n := 1) eL_law_252 rfl ?_
  refine zr_arg (j := 1) eL_law_253 eL_law_254 eL_law_255 eL_law_256 eL_law_257 rfl (by omega) hL ?_
  refine zr_arg (j := 2) eL_law_258 eL_law_259 eL_law_260 eL_law_261 eL_law_262 rfl (by omega) hL ?_
  refine lawX (args := [(Sum.inl ((xs (i + 1)).toInt)), (Sum.inl ((xs (i + 2)).toInt))]) eL_law_263 zC_8_33 rfl rfl (Nat.le_of_ble_eq_true rfl) hu hc (p_turn (d := 18) hc hw (xr_ _) (xr_ _)) (fun M1 c1 f1 => ?_)
  refine zr_aload_n (n := 2) eL_law_266 rfl ?_
  refine zr_arg (j := 1) eL_law_267 eL_law_268 eL_law_269 eL_law_270 eL_law_271 rfl (by omega) hL ?_
  refine zr_arg (j := 2) eL_law_272 eL_law_273 eL_law_274 eL_law_275 eL_law_276 rfl (by omega) hL ?_
  have d1 := hd.keepO f1 (by omega)
  refine lawM (args := [(Sum.inl ((xs (i + 1)).toInt)), (Sum.inl ((xs (i + 2)).toInt))]) eL_law_277 zC_8_36 rfl rfl (Nat.le_of_ble_eq_true rfl) hu d1 (m_turn (d := 22) d1 hw (xr_ _) (xr_ _)) (fun M2 c2 f2 => ?_)
  refine zr_same eL_law_280 (by decide) ?_
  exact hK M2 _ (c1.keepO f2 (by omega)) c2 (wf_turn hw) (fun q hq => (f2 q (by omega)).trans (f1 q (by omega)))
theorem lc_exchange (hL : L ≤ 2048) (hi : i + 3 < L) (hu : u.1 ≤ 600000 ∧ u.2 ≤ 7302250) (hxm : x + 174 ≤ m) (hc : clG M x A) (hd : mdG M m A) (hw : wfA A) (hK : ∀ M' A', clG M' x A' → mdG M' m A' → wfA A' → (∀ q, (q < x ∨ m + 13 ≤ q) → M' q = M q) → zLw lo b L xs u 839 [some (Sum.inr (Sum.inl (some (b)))), some (Sum.inr (Sum.inl (some (x)))), some (Sum.inr (Sum.inl (some (m)))), some (Sum.inl ((i : Int)))] [] M') : zLw lo b L xs u 285 [some (Sum.inr (Sum.inl (some (b)))), some (Sum.inr (Sum.inl (some (x)))), some (Sum.inr (Sum.inl (some (m)))), some (Sum.inl ((i : Int)))] [] M := by
  refine zr_aload_n (n := 1) eL_law_285 rfl ?_
  refine zr_arg (j := 1) eL_law_286 eL_law_287 eL_law_288 eL_law_289 eL_law_290 rfl (by omega) hL ?_
  refine zr_arg (j := 2) eL_law_291 eL_law_292 eL_law_293 eL_law_294 eL_law_295 rfl (by omega) hL ?_
  refine lawX (args := [(Sum.inl ((xs (i + 1)).toInt)), (Sum.inl ((xs (i + 2)).toInt))]) eL_law_296 zC_8_37 rfl rfl (Nat.le_of_ble_eq_true rfl) hu hc (p_exchange (d := 18) hc hw (xr_ _) (xr_ _)) (fun M1 c1 f1 => ?_)
  refine zr_aload_n (n := 2) eL_law_299 rfl ?_
  refine zr_arg (j := 1) eL_law_300 eL_law_301 eL_law_302 eL_law_303 eL_law_304 rfl (by omega) hL ?_
  refine zr_arg (j := 2) eL_law_305 eL_law_306 eL_law_307 eL_law_308 eL_law_309 rfl (by omega) hL ?_
  have d1 := hd.keepO f1 (by omega)
  refine lawM (args := [(Sum.inl ((xs (i + 1)).toInt)), (Sum.inl ((xs (i + 2)).toInt))]) eL_law_310 zC_8_40 rfl rfl (Nat.le_of_ble_eq_true rfl) hu d1 (m_exchange (d := 22) d1 hw (xr_ _) (xr_ _)) (fun M2 c2 f2 => ?_)
  refine zr_same eL_law_313 (by decide) ?_
  exact hK M2 _ (c1.keepO f2 (by omega)) c2 (wf_exchange hw) (fun q hq => (f2 q (by omega)).trans (f1 q (by omega)))
theorem lc_join (hL : L ≤ 2048) (hi : i + 3 < L) (hu : u.1 ≤ 600000 ∧ u.2 ≤ 7302250) (hxm : x + 174 ≤ m) (hc : clG M x A) (hd : mdG M m A) (hw : wfA A) (hK : ∀ M' A', clG M' x A' → mdG M' m A' → wfA A' → (∀ q, (q < x ∨ m + 13 ≤ q) → M' q = M q) → zLw lo b L xs u 839 [some (Sum.inr (Sum.inl (some (b)))), some (Sum.inr (Sum.inl (some (x)))), some (Sum.inr (Sum.inl (some (m)))), some (Sum.inl ((i : Int)))] [] M') : zLw lo b L xs u 318 [some (Sum.inr (Sum.inl (some (b)))), some (Sum.inr (Sum.inl (some (x)))), some (Sum.inr (Sum.inl (some (m)))), some (Sum.inl ((i : Int)))] [] M := by
  refine zr_aload_n (n := 1) eL_law_318 rfl ?_
  refine zr_arg (j := 1) eL_law_319 eL_law_320 eL_law_321 eL_law_322 eL_law_323 rfl (by omega) hL ?_
  refine zr_arg (j := 2) eL_law_324 eL_law_325 eL_law_326 eL_law_327 eL_law_328 rfl (by omega) hL ?_
  refine lawX (args := [(Sum.inl ((xs (i + 1)).toInt)), (Sum.inl ((xs (i + 2)).toInt))]) eL_law_329 zC_8_41 rfl rfl (Nat.le_of_ble_eq_true rfl) hu hc (p_join (d := 18) hc hw (xr_ _) (xr_ _)) (fun M1 c1 f1 => ?_)
  refine zr_aload_n (n := 2) eL_law_332 rfl ?_
  refine zr_arg (j := 1) eL_law_333 eL_law_334 eL_law_335 eL_law_336 eL_law_337 rfl (by omega) hL ?_
  refine zr_arg (j := 2) eL_law_338 eL_law_339 eL_law_340 eL_law_341 eL_law_342 rfl (by omega) hL ?_
  have d1 := hd.keepO f1 (by omega)
  refine lawM (args := [(Sum.inl ((xs (i + 1)).toInt)), (Sum.inl ((xs (i + 2)).toInt))]) eL_law_343 zC_8_44 rfl rfl (Nat.le_of_ble_eq_true rfl) hu d1 (m_join (d := 22) d1 hw (xr_ _) (xr_ _)) (fun M2 c2 f2 => ?_)
  refine zr_same eL_law_346 (by decide) ?_
  exact hK M2 _ (c1.keepO f2 (by omega)) c2 (wf_join hw) (fun q hq => (f2 q (by omega)).trans (f1 q (by omega)))
theorem lc_scroll (hL : L ≤ 2048) (hi : i + 3 < L) (hu : u.1 ≤ 600000 ∧ u.2 ≤ 7302250) (hxm : x + 174 ≤ m) (hc : clG M x A) (hd : mdG M m A) (hw : wfA A) (hK : ∀ M' A', clG M' x A' → mdG M' m A' → wfA A' → (∀ q, (q < x ∨ m + 13 ≤ q) → M' q = M q) → zLw lo b L xs u 839 [some (Sum.inr (Sum.inl (some (b)))), some (Sum.inr (Sum.inl (some (x)))), some (Sum.inr (Sum.inl (some (m)))), some (Sum.inl ((i : Int)))] [] M') : zLw lo b L xs u 351 [some (Sum.inr (Sum.inl (some (b)))), some (Sum.inr (Sum.inl (some (x)))), some (Sum.inr (Sum.inl (some (m)))), some (Sum.inl ((i : Int)))] [] M := by
  refine zr_aload_n (n := 1) eL_law_351 rfl ?_
  refine zr_arg (j := 1) eL_law_352 eL_law_353 eL_law_354 eL_law_355 eL_law_356 rfl (by omega) hL ?_
  refine zr_arg (j := 2) eL_law_357 eL_law_358 eL_law_359 eL_law_360 eL_law_361 rfl (by omega) hL ?_
  refine lawX (args := [(Sum.inl ((xs (i + 1)).toInt)), (Sum.inl ((xs (i + 2)).toInt))]) eL_law_362 zC_8_45 rfl rfl (Nat.le_of_ble_eq_true rfl) hu hc (p_scroll (d := 18) hc hw (xr_ _) (xr_ _)) (fun M1 c1 f1 => ?_)
  refine zr_aload_n (n := 2) eL_law_365 rfl ?_
  refine zr_arg (j := 1) eL_law_366 eL_law_367 eL_law_368 eL_law_369 eL_law_370 rfl (by omega) hL ?_
  refine zr_arg (j := 2) eL_law_371 eL_law_372 eL_law_373 eL_law_374 eL_law_375 rfl (by omega) hL ?_
  have d1 := hd.keepO f1 (by omega)
  refine lawM (args := [(Sum.inl ((xs (i + 1)).toInt)), (Sum.inl ((xs (i + 2)).toInt))]) eL_law_376 zC_8_48 rfl rfl (Nat.le_of_ble_eq_true rfl) hu d1 (m_scroll (d := 22) d1 hw (xr_ _) (xr_ _)) (fun M2 c2 f2 => ?_)
  refine zr_same eL_law_379 (by decide) ?_
  exact hK M2 _ (c1.keepO f2 (by omega)) c2 hw (fun q hq => (f2 q (by omega)).trans (f1 q (by omega)))
theorem lc_patch (hL : L ≤ 2048) (hi : i + 3 < L) (hu : u.1 ≤ 600000 ∧ u.2 ≤ 7302250) (hxm : x + 174 ≤ m) (hc : clG M x A) (hd : mdG M m A) (hw : wfA A) (hK : ∀ M' A', clG M' x A' → mdG M' m A' → wfA A' → (∀ q, (q < x ∨ m + 13 ≤ q) → M' q = M q) → zLw lo b L xs u 839 [some (Sum.inr (Sum.inl (some (b)))), some (Sum.inr (Sum.inl (some (x)))), some (Sum.inr (Sum.inl (some (m)))), some (Sum.inl ((i : Int)))] [] M') : zLw lo b L xs u 384 [some (Sum.inr (Sum.inl (some (b)))), some (Sum.inr (Sum.inl (some (x)))), some (Sum.inr (Sum.inl (some (m)))), some (Sum.inl ((i : Int)))] [] M := by
  refine zr_aload_n (n := 1) eL_law_384 rfl ?_
  refine zr_arg (j := 1) eL_law_385 eL_law_386 eL_law_387 eL_law_388 eL_law_389 rfl (by omega) hL ?_
  refine zr_arg (j := 2) eL_law_390 eL_law_391 eL_law_392 eL_law_393 eL_law_394 rfl (by omega) hL ?_
  refine lawX (args := [(Sum.inl ((xs (i + 1)).toInt)), (Sum.inl ((xs (i + 2)).toInt))]) eL_law_395 zC_8_49 rfl rfl (Nat.le_of_ble_eq_true rfl) hu hc (p_patch (d := 18) hc hw (xr_ _) (xr_ _)) (fun M1 c1 f1 => ?_)
  refine zr_aload_n (n := 2) eL_law_398 rfl ?_
  refine zr_arg (j := 1) eL_law_399 eL_law_400 eL_law_401 eL_law_402 eL_law_403 rfl (by omega) hL ?_
  refine zr_arg (j := 2) eL_law_404 eL_law_405 eL_law_406 eL_law_407 eL_law_408 rfl (by omega) hL ?_
  have d1 := hd.keepO f1 (by omega)
  refine lawM (args := [(Sum.inl ((xs (i + 1)).toInt)), (Sum.inl ((xs (i + 2)).toInt))]) eL_law_409 zC_8_52 rfl rfl (Nat.le_of_ble_eq_true rfl) hu d1 (m_patch (d := 22) d1 hw (xr_ _) (xr_ _)) (fun M2 c2 f2 => ?_)
  refine zr_same eL_law_412 (by decide) ?_
  exact hK M2 _ (c1.keepO f2 (by omega)) c2 hw (fun q hq => (f2 q (by omega)).trans (f1 q (by omega)))
theorem lc_letter (hL : L ≤ 2048) (hi : i + 3 < L) (hu : u.1 ≤ 600000 ∧ u.2 ≤ 7302250) (hxm : x + 174 ≤ m) (hc : clG M x A) (hd : mdG M m A) (hw : wfA A) (hK : ∀ M' A', clG M' x A' → mdG M' m A' → wfA A' → (∀ q, (q < x ∨ m + 13 ≤ q) → M' q = M q) → zLw lo b L xs u 839 [some (Sum.inr (Sum.inl (some (b)))), some (Sum.inr (Sum.inl (some (x)))), some (Sum.inr (Sum.inl (some (m)))), some (Sum.inl ((i : Int)))] [] M') : zLw lo b L xs u 417 [some (Sum.inr (Sum.inl (some (b)))), some (Sum.inr (Sum.inl (some (x)))), some (Sum.inr (Sum.inl (some (m)))), some (Sum.inl ((i : Int)))] [] M := by
  refine zr_aload_n (n := 1) eL_law_417 rfl ?_
  refine zr_arg (j := 1) eL_law_418 eL_law_419 eL_law_420 eL_law_421 eL_law_422 rfl (by omega) hL ?_
  refine zr_arg (j := 2) eL_law_423 eL_law_424 eL_law_425 eL_law_426 eL_law_427 rfl (by omega) hL ?_
  refine zr_arg (j := 3) eL_law_428 eL_law_429 eL_law_430 eL_law_431 eL_law_432 rfl (by omega) hL ?_
  refine lawX (args := [(Sum.inl ((xs (i + 1)).toInt)), (Sum.inl ((xs (i + 2)).toInt)), (Sum.inl ((xs (i + 3)).toInt))]) eL_law_433 zC_8_53 rfl rfl (Nat.le_of_ble_eq_true rfl) hu hc (p_letter (d := 18) hc hw (xr_ _) (xr_ _) (xr_ _)) (fun M1 c1 f1 => ?_)
  refine zr_aload_n (n := 2) eL_law_436 rfl ?_
  refine zr_arg (j := 1) eL_law_437 eL_law_438 eL_law_439 eL_law_440 eL_law_441 rfl (by omega) hL ?_
  refine zr_arg (j := 2) eL_law_442 eL_law_443 eL_law_444 eL_law_445 eL_law_446 rfl (by omega) hL ?_
  refine zr_arg (j := 3) eL_law_447 eL_law_448 eL_law_449 eL_law_450 eL_law_451 rfl (by omega) hL ?_
  have d1 := hd.keepO f1 (by omega)
  refine lawM (args := [(Sum.inl ((xs (i + 1)).toInt)), (Sum.inl ((xs (i + 2)).toInt)), (Sum.inl ((xs (i + 3)).toInt))]) eL_law_452 zC_8_56 rfl rfl (Nat.le_of_ble_eq_true rfl) hu d1 (m_letter (d := 22) d1 hw (xr_ _) (xr_ _) (xr_ _)) (fun M2 c2 f2 => ?_)
  refine zr_same eL_law_455 (by decide) ?_
  exact hK M2 _ (c1.keepO f2 (by omega)) c2 hw (fun q hq => (f2 q (by omega)).trans (f1 q (by omega)))
theorem lc_reading (hL : L ≤ 2048) (hi : i + 3 < L) (hu : u.1 ≤ 600000 ∧ u.2 ≤ 7302250) (hxm : x + 174 ≤ m) (hc : clG M x A) (hd : mdG M m A) (hw : wfA A) (hK : ∀ M' A', clG M' x A' → mdG M' m A' → wfA A' → (∀ q, (q < x ∨ m + 13 ≤ q) → M' q = M q) → zLw lo b L xs u 839 [some (Sum.inr (Sum.inl (some (b)))), some (Sum.inr (Sum.inl (some (x)))), some (Sum.inr (Sum.inl (some (m)))), some (Sum.inl ((i : Int)))] [] M') : zLw lo b L xs u 460 [some (Sum.inr (Sum.inl (some (b)))), some (Sum.inr (Sum.inl (some (x)))), some (Sum.inr (Sum.inl (some (m)))), some (Sum.inl ((i : Int)))] [] M := by
  refine zr_aload_n (n := 1) eL_law_460 rfl ?_
  refine zr_arg (j := 1) eL_law_461 eL_law_462 eL_law_463 eL_law_464 eL_law_465 rfl (by omega) hL ?_
  refine zr_arg (j := 2) eL_law_466 eL_law_467 eL_law_468 eL_law_469 eL_law_470 rfl (by omega) hL ?_
  refine zr_arg (j := 3) eL_law_471 eL_law_472 eL_law_473 eL_law_474 eL_law_475 rfl (by omega) hL ?_
  refine lawX (args := [(Sum.inl ((xs (i + 1)).toInt)), (Sum.inl ((xs (i + 2)).toInt)), (Sum.inl ((xs (i + 3)).toInt))]) eL_law_476 zC_8_57 rfl rfl (Nat.le_of_ble_eq_true rfl) hu hc (p_reading (d := 18) hc hw (xr_ _) (xr_ _) (xr_ _)) (fun M1 c1 f1 => ?_)
  refine zr_aload_n (n := 2) eL_law_479 rfl ?_
  refine zr_arg (j := 1) eL_law_480 eL_law_481 eL_law_482 eL_law_483 eL_law_484 rfl (by omega) hL ?_
  refine zr_arg (j := 2) eL_law_485 eL_law_486 eL_law_487 eL_law_488 eL_law_489 rfl (by omega) hL ?_
  refine zr_arg (j := 3) eL_law_490 eL_law_491 eL_law_492 eL_law_493 eL_law_494 rfl (by omega) hL ?_
  have d1 := hd.keepO f1 (by omega)
  refine lawM (args := [(Sum.inl ((xs (i + 1)).toInt)), (Sum.inl ((xs (i + 2)).toInt)), (Sum.inl ((xs (i + 3)).toInt))]) eL_law_495 zC_8_60 rfl rfl (Nat.le_of_ble_eq_true rfl) hu d1 (m_reading (d := 22) d1 hw (xr_ _) (xr_ _) (xr_ _)) (fun M2 c2 f2 => ?_)
  refine zr_same eL_law_498 (by decide) ?_
  exact hK M2 _ (c1.keepO f2 (by omega)) c2 hw (fun q hq => (f2 q (by omega)).trans (f1 q (by omega)))
theorem lc_find (hL : L ≤ 2048) (hi : i + 3 < L) (hu : u.1 ≤ 600000 ∧ u.2 ≤ 7302250) (hxm : x + 174 ≤ m) (hc : clG M x A) (hd : mdG M m A) (hw : wfA A) (hK : ∀ M' A', clG M' x A' → mdG M' m A' → wfA A' → (∀ q, (q < x ∨ m + 13 ≤ q) → M' q = M q) → zLw lo b L xs u 839 [some (Sum.inr (Sum.inl (some (b)))), some (Sum.inr (Sum.inl (some (x)))), some (Sum.inr (Sum.inl (some (m)))), some (Sum.inl ((i : Int)))] [] M') : zLw lo b L xs u 503 [some (Sum.inr (Sum.inl (some (b)))), some (Sum.inr (Sum.inl (some (x)))), some (Sum.inr (Sum.inl (some (m)))), some (Sum.inl ((i : Int)))] [] M := by
  refine zr_aload_n (n := 1) eL_law_503 rfl ?_
  refine zr_arg (j := 1) eL_law_504 eL_law_505 eL_law_506 eL_law_507 eL_law_508 rfl (by omega) hL ?_
  refine zr_arg (j := 2) eL_law_509 eL_law_510 eL_law_511 eL_law_512 eL_law_513 rfl (by omega) hL ?_
  refine lawX (args := [(Sum.inl ((xs (i + 1)).toInt)), (Sum.inl ((xs (i + 2)).toInt))]) eL_law_514 zC_8_61 rfl rfl (Nat.le_of_ble_eq_true rfl) hu hc (p_find (d := 18) hc hw (xr_ _) (xr_ _)) (fun M1 c1 f1 => ?_)
  refine zr_aload_n (n := 2) eL_law_517 rfl ?_
  refine zr_arg (j := 1) eL_law_518 eL_law_519 eL_law_520 eL_law_521 eL_law_522 rfl (by omega) hL ?_
  refine zr_arg (j := 2) eL_law_523 eL_law_524 eL_law_525 eL_law_526 eL_law_527 rfl (by omega) hL ?_
  have d1 := hd.keepO f1 (by omega)
  refine lawM (args := [(Sum.inl ((xs (i + 1)).toInt)), (Sum.inl ((xs (i + 2)).toInt))]) eL_law_528 zC_8_64 rfl rfl (Nat.le_of_ble_eq_true rfl) hu d1 (m_find (d := 22) d1 hw (xr_ _) (xr_ _)) (fun M2 c2 f2 => ?_)
  refine zr_same eL_law_531 (by decide) ?_
  exact hK M2 _ (c1.keepO f2 (by omega)) c2 hw (fun q hq => (f2 q (by omega)).trans (f1 q (by omega)))
theorem lc_shared (hL : L ≤ 2048) (hi : i + 3 < L) (hu : u.1 ≤ 600000 ∧ u.2 ≤ 7302250) (hxm : x + 174 ≤ m) (hc : clG M x A) (hd : mdG M m A) (hw : wfA A) (hK : ∀ M' A', clG M' x A' → mdG M' m A' → wfA A' → (∀ q, (q < x ∨ m + 13 ≤ q) → M' q = M q) → zLw lo b L xs u 839 [some (Sum.inr (Sum.inl (some (b)))), some (Sum.inr (Sum.inl (some (x)))), some (Sum.inr (Sum.inl (some (m)))), some (Sum.inl ((i : Int)))] [] M') : zLw lo b L xs u 536 [some (Sum.inr (Sum.inl (some (b)))), some (Sum.inr (Sum.inl (some (x)))), some (Sum.inr (Sum.inl (some (m)))), some (Sum.inl ((i : Int)))] [] M := by
  refine zr_aload_n (n := 1) eL_law_536 rfl ?_
  refine zr_arg (j := 1) eL_law_537 eL_law_538 eL_law_539 eL_law_540 eL_law_541 rfl (by omega) hL ?_
  refine zr_arg (j := 2) eL_law_542 eL_law_543 eL_law_544 eL_law_545 eL_law_546 rfl (by omega) hL ?_
  refine lawX (args := [(Sum.inl ((xs (i + 1)).toInt)), (Sum.inl ((xs (i + 2)).toInt))]) eL_law_547 zC_8_65 rfl rfl (Nat.le_of_ble_eq_true rfl) hu hc (p_shared (d := 18) hc hw (xr_ _) (xr_ _)) (fun M1 c1 f1 => ?_)
  refine zr_aload_n (n := 2) eL_law_550 rfl ?_
  refine zr_arg (j := 1) eL_law_551 eL_law_552 eL_law_553 eL_law_554 eL_law_555 rfl (by omega) hL ?_
  refine zr_arg (j := 2) eL_law_556 eL_law_557 eL_law_558 eL_law_559 eL_law_560 rfl (by omega) hL ?_
  have d1 := hd.keepO f1 (by omega)
  refine lawM (args := [(Sum.inl ((xs (i + 1)).toInt)), (Sum.inl ((xs (i + 2)).toInt))]) eL_law_561 zC_8_68 rfl rfl (Nat.le_of_ble_eq_true rfl) hu d1 (m_shared (d := 22) d1 hw (xr_ _) (xr_ _)) (fun M2 c2 f2 => ?_)
  refine zr_same eL_law_564 (by decide) ?_
  exact hK M2 _ (c1.keepO f2 (by omega)) c2 hw (fun q hq => (f2 q (by omega)).trans (f1 q (by omega)))
theorem lc_compare (hL : L ≤ 2048) (hi : i + 3 < L) (hu : u.1 ≤ 600000 ∧ u.2 ≤ 7302250) (hxm : x + 174 ≤ m) (hc : clG M x A) (hd : mdG M m A) (hw : wfA A) (hK : ∀ M' A', clG M' x A' → mdG M' m A' → wfA A' → (∀ q, (q < x ∨ m + 13 ≤ q) → M' q = M q) → zLw lo b L xs u 839 [some (Sum.inr (Sum.inl (some (b)))), some (Sum.inr (Sum.inl (some (x)))), some (Sum.inr (Sum.inl (some (m)))), some (Sum.inl ((i : Int)))] [] M') : zLw lo b L xs u 569 [some (Sum.inr (Sum.inl (some (b)))), some (Sum.inr (Sum.inl (some (x)))), some (Sum.inr (Sum.inl (some (m)))), some (Sum.inl ((i : Int)))] [] M := by
  refine zr_aload_n (n := 1) eL_law_569 rfl ?_
  refine zr_arg (j := 1) eL_law_570 eL_law_571 eL_law_572 eL_law_573 eL_law_574 rfl (by omega) hL ?_
  refine zr_arg (j := 2) eL_law_575 eL_law_576 eL_law_577 eL_law_578 eL_law_579 rfl (by omega) hL ?_
  refine lawX (args := [(Sum.inl ((xs (i + 1)).toInt)), (Sum.inl ((xs (i + 2)).toInt))]) eL_law_580 zC_8_69 rfl rfl (Nat.le_of_ble_eq_true rfl) hu hc (p_compare (d := 18) hc hw (xr_ _) (xr_ _)) (fun M1 c1 f1 => ?_)
  refine zr_aload_n (n := 2) eL_law_583 rfl ?_
  refine zr_arg (j := 1) eL_law_584 eL_law_585 eL_law_586 eL_law_587 eL_law_588 rfl (by omega) hL ?_
  refine zr_arg (j := 2) eL_law_589 eL_law_590 eL_law_591 eL_law_592 eL_law_593 rfl (by omega) hL ?_
  have d1 := hd.keepO f1 (by omega)
  refine lawM (args := [(Sum.inl ((xs (i + 1)).toInt)), (Sum.inl ((xs (i + 2)).toInt))]) eL_law_594 zC_8_72 rfl rfl (Nat.le_of_ble_eq_true rfl) hu d1 (m_compare (d := 22) d1 hw (xr_ _) (xr_ _)) (fun M2 c2 f2 => ?_)
  refine zr_same eL_law_597 (by decide) ?_
  exact hK M2 _ (c1.keepO f2 (by omega)) c2 hw (fun q hq => (f2 q (by omega)).trans (f1 q (by omega)))
theorem lc_count (hL : L ≤ 2048) (hi : i + 3 < L) (hu : u.1 ≤ 600000 ∧ u.2 ≤ 7302250) (hxm : x + 174 ≤ m) (hc : clG M x A) (hd : mdG M m A) (hw : wfA A) (hK : ∀ M' A', clG M' x A' → mdG M' m A' → wfA A' → (∀ q, (q < x ∨ m + 13 ≤ q) → M' q = M q) → zLw lo b L xs u 839 [some (Sum.inr (Sum.inl (some (b)))), some (Sum.inr (Sum.inl (some (x)))), some (Sum.inr (Sum.inl (some (m)))), some (Sum.inl ((i : Int)))] [] M') : zLw lo b L xs u 602 [some (Sum.inr (Sum.inl (some (b)))), some (Sum.inr (Sum.inl (some (x)))), some (Sum.inr (Sum.inl (some (m)))), some (Sum.inl ((i : Int)))] [] M := by
  refine zr_aload_n (n := 1) eL_law_602 rfl ?_
  refine zr_arg (j := 1) eL_law_603 eL_law_604 eL_law_605 eL_law_606 eL_law_607 rfl (by omega) hL ?_
  refine lawX (args := [(Sum.inl ((xs (i + 1)).toInt))]) eL_law_608 zC_8_73 rfl rfl (Nat.le_of_ble_eq_true rfl) hu hc (p_count (d := 18) hc hw (xr_ _)) (fun M1 c1 f1 => ?_)
  refine zr_aload_n (n := 2) eL_law_611 rfl ?_
  refine zr_arg (j := 1) eL_law_612 eL_law_613 eL_law_614 eL_law_615 eL_law_616 rfl (by omega) hL ?_
  have d1 := hd.keepO f1 (by omega)
  refine lawM (args := [(Sum.inl ((xs (i + 1)).toInt))]) eL_law_617 zC_8_76 rfl rfl (Nat.le_of_ble_eq_true rfl) hu d1 (m_count (d := 22) d1 hw (xr_ _)) (fun M2 c2 f2 => ?_)
  refine zr_same eL_law_620 (by decide) ?_
  exact hK M2 _ (c1.keepO f2 (by omega)) c2 hw (fun q hq => (f2 q (by omega)).trans (f1 q (by omega)))
theorem lc_ifCut (hL : L ≤ 2048) (hi : i + 3 < L) (hu : u.1 ≤ 600000 ∧ u.2 ≤ 7302250) (hxm : x + 174 ≤ m) (hc : clG M x A) (hd : mdG M m A) (hw : wfA A) (hK : ∀ M' A', clG M' x A' → mdG M' m A' → wfA A' → (∀ q, (q < x ∨ m + 13 ≤ q) → M' q = M q) → zLw lo b L xs u 839 [some (Sum.inr (Sum.inl (some (b)))), some (Sum.inr (Sum.inl (some (x)))), some (Sum.inr (Sum.inl (some (m)))), some (Sum.inl ((i : Int)))] [] M') : zLw lo b L xs u 625 [some (Sum.inr (Sum.inl (some (b)))), some (Sum.inr (Sum.inl (some (x)))), some (Sum.inr (Sum.inl (some (m)))), some (Sum.inl ((i : Int)))] [] M := by
  refine zr_aload_n (n := 1) eL_law_625 rfl ?_
  refine zr_arg (j := 1) eL_law_626 eL_law_627 eL_law_628 eL_law_629 eL_law_630 rfl (by omega) hL ?_
  refine zr_arg (j := 2) eL_law_631 eL_law_632 eL_law_633 eL_law_634 eL_law_635 rfl (by omega) hL ?_
  refine zr_arg (j := 3) eL_law_636 eL_law_637 eL_law_638 eL_law_639 eL_law_640 rfl (by omega) hL ?_
  refine lawX (args := [(Sum.inl ((xs (i + 1)).toInt)), (Sum.inl ((xs (i + 2)).toInt)), (Sum.inl ((xs (i + 3)).toInt))]) eL_law_641 zC_8_77 rfl rfl (Nat.le_of_ble_eq_true rfl) hu hc (p_ifCut (d := 18) hc hw (xr_ _) (xr_ _) (xr_ _)) (fun M1 c1 f1 => ?_)
  refine zr_aload_n (n := 2) eL_law_644 rfl ?_
  refine zr_arg (j := 1) eL_law_645 eL_law_646 eL_law_647 eL_law_648 eL_law_649 rfl (by omega) hL ?_
  refine zr_arg (j := 2) eL_law_650 eL_law_651 eL_law_652 eL_law_653 eL_law_654 rfl (by omega) hL ?_
  refine zr_arg (j := 3) eL_law_655 eL_law_656 eL_law_657 eL_law_658 eL_law_659 rfl (by omega) hL ?_
  have d1 := hd.keepO f1 (by omega)
  refine lawM (args := [(Sum.inl ((xs (i + 1)).toInt)), (Sum.inl ((xs (i + 2)).toInt)), (Sum.inl ((xs (i + 3)).toInt))]) eL_law_660 zC_8_80 rfl rfl (Nat.le_of_ble_eq_true rfl) hu d1 (m_ifCut (d := 22) d1 hw (xr_ _) (xr_ _) (xr_ _)) (fun M2 c2 f2 => ?_)
  refine zr_same eL_law_663 (by decide) ?_
  exact hK M2 _ (c1.keepO f2 (by omega)) c2 hw (fun q hq => (f2 q (by omega)).trans (f1 q (by omega)))
theorem lc_bestCut (hL : L ≤ 2048) (hi : i + 3 < L) (hu : u.1 ≤ 600000 ∧ u.2 ≤ 7302250) (hxm : x + 174 ≤ m) (hc : clG M x A) (hd : mdG M m A) (hw : wfA A) (hK : ∀ M' A', clG M' x A' → mdG M' m A' → wfA A' → (∀ q, (q < x ∨ m + 13 ≤ q) → M' q = M q) → zLw lo b L xs u 839 [some (Sum.inr (Sum.inl (some (b)))), some (Sum.inr (Sum.inl (some (x)))), some (Sum.inr (Sum.inl (some (m)))), some (Sum.inl ((i : Int)))] [] M') : zLw lo b L xs u 668 [some (Sum.inr (Sum.inl (some (b)))), some (Sum.inr (Sum.inl (some (x)))), some (Sum.inr (Sum.inl (some (m)))), some (Sum.inl ((i : Int)))] [] M := by
  refine zr_aload_n (n := 1) eL_law_668 rfl ?_
  refine zr_arg (j := 1) eL_law_669 eL_law_670 eL_law_671 eL_law_672 eL_law_673 rfl (by omega) hL ?_
  refine zr_arg (j := 2) eL_law_674 eL_law_675 eL_law_676 eL_law_677 eL_law_678 rfl (by omega) hL ?_
  refine lawX (args := [(Sum.inl ((xs (i + 1)).toInt)), (Sum.inl ((xs (i + 2)).toInt))]) eL_law_679 zC_8_81 rfl rfl (Nat.le_of_ble_eq_true rfl) hu hc (p_bestCut (d := 18) hc hw (xr_ _) (xr_ _)) (fun M1 c1 f1 => ?_)
  refine zr_aload_n (n := 2) eL_law_682 rfl ?_
  refine zr_arg (j := 1) eL_law_683 eL_law_684 eL_law_685 eL_law_686 eL_law_687 rfl (by omega) hL ?_
  refine zr_arg (j := 2) eL_law_688 eL_law_689 eL_law_690 eL_law_691 eL_law_692 rfl (by omega) hL ?_
  have d1 := hd.keepO f1 (by omega)
  refine lawM (args := [(Sum.inl ((xs (i + 1)).toInt)), (Sum.inl ((xs (i + 2)).toInt))]) eL_law_693 zC_8_84 rfl rfl (Nat.le_of_ble_eq_true rfl) hu d1 (m_bestCut (d := 22) d1 hw (xr_ _) (xr_ _)) (fun M2 c2 f2 => ?_)
  refine zr_same eL_law_696 (by decide) ?_
  exact hK M2 _ (c1.keepO f2 (by omega)) c2 hw (fun q hq => (f2 q (by omega)).trans (f1 q (by omega)))
theorem lc_put (hL : L ≤ 2048) (hi : i + 3 < L) (hu : u.1 ≤ 600000 ∧ u.2 ≤ 7302250) (hxm : x + 174 ≤ m) (hc : clG M x A) (hd : mdG M m A) (hw : wfA A) (hK : ∀ M' A', clG M' x A' → mdG M' m A' → wfA A' → (∀ q, (q < x ∨ m + 13 ≤ q) → M' q = M q) → zLw lo b L xs u 839 [some (Sum.inr (Sum.inl (some (b)))), some (Sum.inr (Sum.inl (some (x)))), some (Sum.inr (Sum.inl (some (m)))), some (Sum.inl ((i : Int)))] [] M') : zLw lo b L xs u 701 [some (Sum.inr (Sum.inl (some (b)))), some (Sum.inr (Sum.inl (some (x)))), some (Sum.inr (Sum.inl (some (m)))), some (Sum.inl ((i : Int)))] [] M := by
  refine zr_aload_n (n := 1) eL_law_701 rfl ?_
  refine zr_arg (j := 1) eL_law_702 eL_law_703 eL_law_704 eL_law_705 eL_law_706 rfl (by omega) hL ?_
  refine zr_i2l eL_law_707 ?_
  refine zr_bipush eL_law_708 (by decide) (by decide) ?_
  refine zr_lshl eL_law_710 ?_
  refine zr_arg (j := 2) eL_law_711 eL_law_712 eL_law_713 eL_law_714 eL_law_715 rfl (by omega) hL ?_
  refine zr_i2l eL_law_716 ?_
  refine zr_ldc2 eL_law_717 zL_8_85 ?_
  refine zr_land eL_law_720 ?_
  refine zr_lor eL_law_721 ?_
  refine lawX (args := [(Sum.inr (Sum.inr (_)))]) eL_law_722 zC_8_87 rfl rfl (Nat.le_of_ble_eq_true rfl) hu hc (p_put (d := 18) hc hw) (fun M1 c1 f1 => ?_)
  refine zr_aload_n (n := 2) eL_law_725 rfl ?_
  refine zr_arg (j := 1) eL_law_726 eL_law_727 eL_law_728 eL_law_729 eL_law_730 rfl (by omega) hL ?_
  refine zr_i2l eL_law_731 ?_
  refine zr_bipush eL_law_732 (by decide) (by decide) ?_
  refine zr_lshl eL_law_734 ?_
  refine zr_arg (j := 2) eL_law_735 eL_law_736 eL_law_737 eL_law_738 eL_law_739 rfl (by omega) hL ?_
  refine zr_i2l eL_law_740 ?_
  refine zr_ldc2 eL_law_741 zL_8_85 ?_
  refine zr_land eL_law_744 ?_
  refine zr_lor eL_law_745 ?_
  have d1 := hd.keepO f1 (by omega)
  refine lawM (args := [(Sum.inr (Sum.inr (_)))]) eL_law_746 zC_8_91 rfl rfl (Nat.le_of_ble_eq_true rfl) hu d1 (m_put (d := 22) d1 hw) (fun M2 c2 f2 => ?_)
  refine zr_same eL_law_749 (by decide) ?_
  exact hK M2 _ (c1.keepO f2 (by omega)) c2 (wf_put hw) (fun q hq => (f2 q (by omega)).trans (f1 q (by omega)))
theorem lc_wipe (hL : L ≤ 2048) (hi : i + 3 < L) (hu : u.1 ≤ 600000 ∧ u.2 ≤ 7302250) (hxm : x + 174 ≤ m) (hc : clG M x A) (hd : mdG M m A) (hw : wfA A) (hK : ∀ M' A', clG M' x A' → mdG M' m A' → wfA A' → (∀ q, (q < x ∨ m + 13 ≤ q) → M' q = M q) → zLw lo b L xs u 839 [some (Sum.inr (Sum.inl (some (b)))), some (Sum.inr (Sum.inl (some (x)))), some (Sum.inr (Sum.inl (some (m)))), some (Sum.inl ((i : Int)))] [] M') : zLw lo b L xs u 754 [some (Sum.inr (Sum.inl (some (b)))), some (Sum.inr (Sum.inl (some (x)))), some (Sum.inr (Sum.inl (some (m)))), some (Sum.inl ((i : Int)))] [] M := by
  refine zr_aload_n (n := 1) eL_law_754 rfl ?_
  refine lawX (args := []) eL_law_755 zC_8_92 rfl rfl (Nat.le_of_ble_eq_true rfl) hu hc (p_wipe (d := 18) hc hw) (fun M1 c1 f1 => ?_)
  refine zr_aload_n (n := 2) eL_law_758 rfl ?_
  have d1 := hd.keepO f1 (by omega)
  refine lawM (args := []) eL_law_759 zC_8_95 rfl rfl (Nat.le_of_ble_eq_true rfl) hu d1 (m_wipe (d := 22) d1 hw) (fun M2 c2 f2 => ?_)
  refine zr_same eL_law_762 (by decide) ?_
  exact hK M2 _ (c1.keepO f2 (by omega)) c2 (wf_wipe hw) (fun q hq => (f2 q (by omega)).trans (f1 q (by omega)))
theorem lc_fault (hL : L ≤ 2048) (hi : i + 3 < L) (hu : u.1 ≤ 600000 ∧ u.2 ≤ 7302250) (hxm : x + 174 ≤ m) (hc : clG M x A) (hd : mdG M m A) (hw : wfA A) (hK : ∀ M' A', clG M' x A' → mdG M' m A' → wfA A' → (∀ q, (q < x ∨ m + 13 ≤ q) → M' q = M q) → zLw lo b L xs u 839 [some (Sum.inr (Sum.inl (some (b)))), some (Sum.inr (Sum.inl (some (x)))), some (Sum.inr (Sum.inl (some (m)))), some (Sum.inl ((i : Int)))] [] M') : zLw lo b L xs u 767 [some (Sum.inr (Sum.inl (some (b)))), some (Sum.inr (Sum.inl (some (x)))), some (Sum.inr (Sum.inl (some (m)))), some (Sum.inl ((i : Int)))] [] M := by
  refine zr_aload_n (n := 1) eL_law_767 rfl ?_
  refine lawX (args := []) eL_law_768 zC_8_96 rfl rfl (Nat.le_of_ble_eq_true rfl) hu hc (p_fault (d := 18) hc hw) (fun M1 c1 f1 => ?_)
  refine zr_aload_n (n := 2) eL_law_771 rfl ?_
  have d1 := hd.keepO f1 (by omega)
  refine lawM (args := []) eL_law_772 zC_8_99 rfl rfl (Nat.le_of_ble_eq_true rfl) hu d1 (m_fault (d := 22) d1 hw) (fun M2 c2 f2 => ?_)
  refine zr_same eL_law_775 (by decide) ?_
  exact hK M2 _ (c1.keepO f2 (by omega)) c2 hw (fun q hq => (f2 q (by omega)).trans (f1 q (by omega)))
theorem lc_undo (hL : L ≤ 2048) (hi : i + 3 < L) (hu : u.1 ≤ 600000 ∧ u.2 ≤ 7302250) (hxm : x + 174 ≤ m) (hc : clG M x A) (hd : mdG M m A) (hw : wfA A) (hK : ∀ M' A', clG M' x A' → mdG M' m A' → wfA A' → (∀ q, (q < x ∨ m + 13 ≤ q) → M' q = M q) → zLw lo b L xs u 839 [some (Sum.inr (Sum.inl (some (b)))), some (Sum.inr (Sum.inl (some (x)))), some (Sum.inr (Sum.inl (some (m)))), some (Sum.inl ((i : Int)))] [] M') : zLw lo b L xs u 780 [some (Sum.inr (Sum.inl (some (b)))), some (Sum.inr (Sum.inl (some (x)))), some (Sum.inr (Sum.inl (some (m)))), some (Sum.inl ((i : Int)))] [] M := by
  refine zr_aload_n (n := 1) eL_law_780 rfl ?_
  refine lawX (args := []) eL_law_781 zC_8_100 rfl rfl (Nat.le_of_ble_eq_true rfl) hu hc (p_undo (d := 18) hc hw) (fun M1 c1 f1 => ?_)
  refine zr_aload_n (n := 2) eL_law_784 rfl ?_
  have d1 := hd.keepO f1 (by omega)
  refine lawM (args := []) eL_law_785 zC_8_103 rfl rfl (Nat.le_of_ble_eq_true rfl) hu d1 (m_undo (d := 22) d1 hw) (fun M2 c2 f2 => ?_)
  refine zr_same eL_law_788 (by decide) ?_
  exact hK M2 _ (c1.keepO f2 (by omega)) c2 (wf_undo hw) (fun q hq => (f2 q (by omega)).trans (f1 q (by omega)))
theorem lc_save (hL : L ≤ 2048) (hi : i + 3 < L) (hu : u.1 ≤ 600000 ∧ u.2 ≤ 7302250) (hxm : x + 174 ≤ m) (hc : clG M x A) (hd : mdG M m A) (hw : wfA A) (hK : ∀ M' A', clG M' x A' → mdG M' m A' → wfA A' → (∀ q, (q < x ∨ m + 13 ≤ q) → M' q = M q) → zLw lo b L xs u 839 [some (Sum.inr (Sum.inl (some (b)))), some (Sum.inr (Sum.inl (some (x)))), some (Sum.inr (Sum.inl (some (m)))), some (Sum.inl ((i : Int)))] [] M') : zLw lo b L xs u 793 [some (Sum.inr (Sum.inl (some (b)))), some (Sum.inr (Sum.inl (some (x)))), some (Sum.inr (Sum.inl (some (m)))), some (Sum.inl ((i : Int)))] [] M := by
  refine zr_aload_n (n := 1) eL_law_793 rfl ?_
  refine zr_arg (j := 1) eL_law_794 eL_law_795 eL_law_796 eL_law_797 eL_law_798 rfl (by omega) hL ?_
  refine lawX (args := [(Sum.inl ((xs (i + 1)).toInt))]) eL_law_799 zC_8_104 rfl rfl (Nat.le_of_ble_eq_true rfl) hu hc (p_save (d := 18) hc hw (xr_ _)) (fun M1 c1 f1 => ?_)
  refine zr_aload_n (n := 2) eL_law_802 rfl ?_
  refine zr_arg (j := 1) eL_law_803 eL_law_804 eL_law_805 eL_law_806 eL_law_807 rfl (by omega) hL ?_
  have d1 := hd.keepO f1 (by omega)
  refine lawM (args := [(Sum.inl ((xs (i + 1)).toInt))]) eL_law_808 zC_8_107 rfl rfl (Nat.le_of_ble_eq_true rfl) hu d1 (m_save (d := 22) d1 hw (xr_ _)) (fun M2 c2 f2 => ?_)
  refine zr_same eL_law_811 (by decide) ?_
  exact hK M2 _ (c1.keepO f2 (by omega)) c2 (wf_save hw) (fun q hq => (f2 q (by omega)).trans (f1 q (by omega)))
theorem lc_restore (hL : L ≤ 2048) (hi : i + 3 < L) (hu : u.1 ≤ 600000 ∧ u.2 ≤ 7302250) (hxm : x + 174 ≤ m) (hc : clG M x A) (hd : mdG M m A) (hw : wfA A) (hK : ∀ M' A', clG M' x A' → mdG M' m A' → wfA A' → (∀ q, (q < x ∨ m + 13 ≤ q) → M' q = M q) → zLw lo b L xs u 839 [some (Sum.inr (Sum.inl (some (b)))), some (Sum.inr (Sum.inl (some (x)))), some (Sum.inr (Sum.inl (some (m)))), some (Sum.inl ((i : Int)))] [] M') : zLw lo b L xs u 816 [some (Sum.inr (Sum.inl (some (b)))), some (Sum.inr (Sum.inl (some (x)))), some (Sum.inr (Sum.inl (some (m)))), some (Sum.inl ((i : Int)))] [] M := by
  refine zr_aload_n (n := 1) eL_law_816 rfl ?_
  refine zr_arg (j := 1) eL_law_817 eL_law_818 eL_law_819 eL_law_820 eL_law_821 rfl (by omega) hL ?_
  refine lawX (args := [(Sum.inl ((xs (i + 1)).toInt))]) eL_law_822 zC_8_108 rfl rfl (Nat.le_of_ble_eq_true rfl) hu hc (p_restore (d := 18) hc hw (xr_ _)) (fun M1 c1 f1 => ?_)
  refine zr_aload_n (n := 2) eL_law_825 rfl ?_
  refine zr_arg (j := 1) eL_law_826 eL_law_827 eL_law_828 eL_law_829 eL_law_830 rfl (by omega) hL ?_
  have d1 := hd.keepO f1 (by omega)
  refine lawM (args := [(Sum.inl ((xs (i + 1)).toInt))]) eL_law_831 zC_8_111 rfl rfl (Nat.le_of_ble_eq_true rfl) hu d1 (m_restore (d := 22) d1 hw (xr_ _)) (fun M2 c2 f2 => ?_)
  refine zr_same eL_law_834 (by decide) ?_
  exact hK M2 _ (c1.keepO f2 (by omega)) c2 (wf_restore hw) (fun q hq => (f2 q (by omega)).trans (f1 q (by omega)))
end LC
