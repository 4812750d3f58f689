/-! THE LAW: its cases, its loop -/
def mL (nm : String) : Mi := (⟨RL, nm, "([I)Z"⟩, cL_law, 4, some .boolean)
def ZL (G : GG) : List Frame → Array Value → State → State → Prop := fun below args s t => s.heap.size ≤ gB G → args = #[Value.ref (gb G)] → lw_Z below args s t
abbrev KL (nm : String) (l : Launch) (G : GG) : Kx := (l, G, mL nm, room_1, ZL G)
theorem x32 (v : Int32) : R32 v.toInt := ⟨by have := Int32.le_toInt v; omega, by have := Int32.toInt_lt v; omega⟩
theorem rm_ok (d : Nat) (h : d ≤ 100) : roomOK room_1 d := ⟨by show d + 1 ≤ 2048; omega, by show 100 * (d + 1) ≤ 84000; omega⟩
theorem sz80 {σ : Si} {W H P C O : Nat} (h : JC σ W H P C O) : σ 2 2 ≤ 80 := by
  have h1 := h.2.1.2.2.1
  have h2 := h.2.1.le
  omega
def KK (nm : String) (l : Launch) (G : GG) (i c0 s0 n : Nat) (ρ : Rho) (σ : Si) (B : Int) : Prop := ∀ σ2 : Si, (∃ W H P C O : Nat, JJ σ2 W H P C O (B + 800)) → (∀ k, 73 ≤ k → σ2 k = σ k) → RW (KL nm l G) (c0, s0, n, ρ) σ2 1097 [.ref (gb G), rf G 0, rf G 38, iv i] []
section Law
variable {nm : String} {l : Launch} {G : GG} {n i c0 s0 : Nat} {ρ : Rho} {σ : Si} {W H P C O : Nat} {B : Int}
theorem r_same {K : Kx} {φ : Ph} {pc : Nat} {L st : List Value} {a b : Int} {off : Int} {tgt : Nat} (hd : decode K.2.2.1.2.1 pc = .ok (.if_icmp .eq off, 3)) (ht : (pc : Int) + off = (tgt : Int)) (e : a = b) (k : RW K φ σ tgt L st) : RW K φ σ pc L (iv b :: iv a :: st) := by
  subst e
  intro p e s m args below meth c H locs ls F hW hS hl h0
  refine lv_icmp_eq F.1 F.2.1 hd ht (fun h => ?_) (fun h => ?_)
  · exact k p e s m args below meth c H locs ls F hW hS hl h0
  · exact absurd rfl h
theorem law_end {φ : Ph} {L : List Value} (hc : φ.1 ≤ 600000) (hs : φ.2.1 ≤ 7302250) : RW (KL nm l G) φ σ 1104 L [iv 1] := by
  intro p e s m args below meth c H locs ls F hW hS hl h0
  by_cases hcond : s.heap.size ≤ gB G ∧ args = #[Value.ref (gb G)]
  · obtain ⟨h1, rfl⟩ := hcond
    intro T hT X
    obtain ⟨t, a, b⟩ := va_forget (fun q hq => Nat.le_trans h1 (hS.2.2 q hq)) (W.widen hc hs (lw_ret F.1 F.2.1 F.2.2.1 F.2.2.2.2.2.2.1 dL_law_1104)) T hT X
    exact ⟨t, a, fun _ _ => b⟩
  · intro T hT X
    exact ⟨_, Steps.refl _, fun q1 q2 => absurd ⟨q1, q2⟩ hcond⟩
set_option maxHeartbeats 4000000 in
theorem law_land (hs : Std n ρ) (J : JJ σ W H P C O B) (hi : i + 6 ≤ gL G) (hB : 0 ≤ B ∧ B ≤ 890000) (hc0 : c0 ≤ 600000) (hs0 : s0 ≤ 7302250) (kk : KK nm l G i c0 s0 n ρ σ B) : RW (KL nm l G) (c0, s0, n, ρ) σ 156 [.ref (gb G), rf G 0, rf G 38, iv i] [] := by
  have r1 := x32 (gx G (i + 1))
  have r2 := x32 (gx G (i + 2))
  refine r_aloadk_n dL_law_156 rfl ?_
  refine r_aload_n dL_law_157 rfl ?_
  refine r_iload_n dL_law_158 rfl ?_
  refine r_iconst dL_law_159 ?_
  refine r_iadd dL_law_160 ?_
  refine r_sld (c := i + 1) dL_law_161 (by omega) (show i + 1 < gL G by omega) ?_
  refine r_aload_n dL_law_162 rfl ?_
  refine r_iload_n dL_law_163 rfl ?_
  refine r_iconst dL_law_164 ?_
  refine r_iadd dL_law_165 ?_
  refine r_sld (c := i + 2) dL_law_166 (by omega) (show i + 2 < gL G by omega) ?_
  refine q_callVi dL_law_167 (c_land hs J.1.1 (gx G (i + 1)).toInt (gx G (i + 2)).toInt r1 r2) ml_L_13 okX8_land rfl rfl (hs.lt rfl) rfl rfl (Nat.le_of_ble_eq_true rfl) (rm_ok _ (by decide)) ⟨hc0, hs0⟩ (fun σ1 z1 hq1 => ?_)
  have q1 : cQ_land σ W H P C O (gx G (i + 1)).toInt (gx G (i + 2)).toInt σ1 z1 := hq1
  have cf := cf_land J.1 q1
  refine r_aloadk_n dL_law_170 rfl ?_
  refine r_aload_n dL_law_171 rfl ?_
  refine r_iload_n dL_law_172 rfl ?_
  refine r_iconst dL_law_173 ?_
  refine r_iadd dL_law_174 ?_
  refine r_sld (c := i + 1) dL_law_175 (by omega) (show i + 1 < gL G by omega) ?_
  refine r_aload_n dL_law_176 rfl ?_
  refine r_iload_n dL_law_177 rfl ?_
  refine r_iconst dL_law_178 ?_
  refine r_iadd dL_law_179 ?_
  refine r_sld (c := i + 2) dL_law_180 (by omega) (show i + 2 < gL G by omega) ?_
  refine q_callVi dL_law_181 (m_land hs (J.cf cf) (gx G (i + 1)).toInt (gx G (i + 2)).toInt r1 r2) ml_L_17 okX9_land rfl rfl (hs.lt rfl) rfl rfl (Nat.le_of_ble_eq_true rfl) (rm_ok _ (by decide)) ⟨hc0, hs0⟩ (fun σ2 z2 hq2 => ?_)
  have q2 : mQ_land σ1 W H P C O (gx G (i + 1)).toInt (gx G (i + 2)).toInt σ2 z2 := hq2
  have st := st_land J hB.1 r1 r2 q1 q2
  refine r_same (tgt := 1097) dL_law_184 (by omega) st.1 ?_
  exact kk σ2 st.2.2 (fun k hk => (st.2.1 k hk).trans (cf.1 k (by omega)))
set_option maxHeartbeats 4000000 in
theorem law_cell (hs : Std n ρ) (J : JJ σ W H P C O B) (hi : i + 6 ≤ gL G) (hB : 0 ≤ B ∧ B ≤ 890000) (hc0 : c0 ≤ 600000) (hs0 : s0 ≤ 7302250) (kk : KK nm l G i c0 s0 n ρ σ B) : RW (KL nm l G) (c0, s0, n, ρ) σ 189 [.ref (gb G), rf G 0, rf G 38, iv i] [] := by
  have r1 := x32 (gx G (i + 1))
  have r2 := x32 (gx G (i + 2))
  have r3 := x32 (gx G (i + 3))
  refine r_aloadk_n dL_law_189 rfl ?_
  refine r_aload_n dL_law_190 rfl ?_
  refine r_iload_n dL_law_191 rfl ?_
  refine r_iconst dL_law_192 ?_
  refine r_iadd dL_law_193 ?_
  refine r_sld (c := i + 1) dL_law_194 (by omega) (show i + 1 < gL G by omega) ?_
  refine r_aload_n dL_law_195 rfl ?_
  refine r_iload_n dL_law_196 rfl ?_
  refine r_iconst dL_law_197 ?_
  refine r_iadd dL_law_198 ?_
  refine r_sld (c := i + 2) dL_law_199 (by omega) (show i + 2 < gL G by omega) ?_
  refine r_aload_n dL_law_200 rfl ?_
  refine r_iload_n dL_law_201 rfl ?_
  refine r_iconst dL_law_202 ?_
  refine r_iadd dL_law_203 ?_
  refine r_sld (c := i + 3) dL_law_204 (by omega) (show i + 3 < gL G by omega) ?_
  refine q_callVi dL_law_205 (c_cell hs J.1.1 (sz80 J.1) (gx G (i + 1)).toInt (gx G (i + 2)).toInt (gx G (i + 3)).toInt r1 r2 r3) ml_L_18 okX8_cell rfl rfl (hs.lt rfl) rfl rfl (Nat.le_of_ble_eq_true rfl) (rm_ok _ (by decide)) ⟨hc0, hs0⟩ (fun σ1 z1 hq1 => ?_)
  have q1 : cQ_cell σ W H P C O (gx G (i + 1)).toInt (gx G (i + 2)).toInt (gx G (i + 3)).toInt σ1 z1 := hq1
  have cf := cf_cell J.1 r3 q1
  refine r_aloadk_n dL_law_208 rfl ?_
  refine r_aload_n dL_law_209 rfl ?_
  refine r_iload_n dL_law_210 rfl ?_
  refine r_iconst dL_law_211 ?_
  refine r_iadd dL_law_212 ?_
  refine r_sld (c := i + 1) dL_law_213 (by omega) (show i + 1 < gL G by omega) ?_
  refine r_aload_n dL_law_214 rfl ?_
  refine r_iload_n dL_law_215 rfl ?_
  refine r_iconst dL_law_216 ?_
  refine r_iadd dL_law_217 ?_
  refine r_sld (c := i + 2) dL_law_218 (by omega) (show i + 2 < gL G by omega) ?_
  refine r_aload_n dL_law_219 rfl ?_
  refine r_iload_n dL_law_220 rfl ?_
  refine r_iconst dL_law_221 ?_
  refine r_iadd dL_law_222 ?_
  refine r_sld (c := i + 3) dL_law_223 (by omega) (show i + 3 < gL G by omega) ?_
  refine q_callVi dL_law_224 (m_cell hs (J.cf cf) (gx G (i + 1)).toInt (gx G (i + 2)).toInt (gx G (i + 3)).toInt r1 r2 r3) ml_L_22 okX9_cell rfl rfl (hs.lt rfl) rfl rfl (Nat.le_of_ble_eq_true rfl) (rm_ok _ (by decide)) ⟨hc0, hs0⟩ (fun σ2 z2 hq2 => ?_)
  have q2 : mQ_cell σ1 W H P C O (gx G (i + 1)).toInt (gx G (i + 2)).toInt (gx G (i + 3)).toInt σ2 z2 := hq2
  have st := st_cell J r3 q1 q2
  refine r_same (tgt := 1097) dL_law_227 (by omega) st.1 ?_
  exact kk σ2 st.2.2 (fun k hk => (st.2.1 k hk).trans (cf.1 k (by omega)))
set_option maxHeartbeats 4000000 in
theorem law_told (hs : Std n ρ) (J : JJ σ W H P C O B) (hi : i + 6 ≤ gL G) (hB : 0 ≤ B ∧ B ≤ 890000) (hc0 : c0 ≤ 600000) (hs0 : s0 ≤ 7302250) (kk : KK nm l G i c0 s0 n ρ σ B) : RW (KL nm l G) (c0, s0, n, ρ) σ 232 [.ref (gb G), rf G 0, rf G 38, iv i] [] := by
  have r1 := x32 (gx G (i + 1))
  have r2 := x32 (gx G (i + 2))
  refine r_aloadk_n dL_law_232 rfl ?_
  refine r_aload_n dL_law_233 rfl ?_
  refine r_iload_n dL_law_234 rfl ?_
  refine r_iconst dL_law_235 ?_
  refine r_iadd dL_law_236 ?_
  refine r_sld (c := i + 1) dL_law_237 (by omega) (show i + 1 < gL G by omega) ?_
  refine r_aload_n dL_law_238 rfl ?_
  refine r_iload_n dL_law_239 rfl ?_
  refine r_iconst dL_law_240 ?_
  refine r_iadd dL_law_241 ?_
  refine r_sld (c := i + 2) dL_law_242 (by omega) (show i + 2 < gL G by omega) ?_
  refine q_callVr dL_law_243 (c_told hs J.1.1 (sz80 J.1) (gx G (i + 1)).toInt (gx G (i + 2)).toInt r1 r2) ml_L_23 okX8_told rfl rfl (hs.lt rfl) rfl rfl (Nat.le_of_ble_eq_true rfl) (rm_ok _ (by decide)) ⟨hc0, hs0⟩ ?_
  refine r_aloadk_n dL_law_246 rfl ?_
  refine r_aload_n dL_law_247 rfl ?_
  refine r_iload_n dL_law_248 rfl ?_
  refine r_iconst dL_law_249 ?_
  refine r_iadd dL_law_250 ?_
  refine r_sld (c := i + 1) dL_law_251 (by omega) (show i + 1 < gL G by omega) ?_
  refine r_aload_n dL_law_252 rfl ?_
  refine r_iload_n dL_law_253 rfl ?_
  refine r_iconst dL_law_254 ?_
  refine r_iadd dL_law_255 ?_
  refine r_sld (c := i + 2) dL_law_256 (by omega) (show i + 2 < gL G by omega) ?_
  refine q_callVr dL_law_257 (m_told hs J.2.1 (gx G (i + 1)).toInt (gx G (i + 2)).toInt r1 r2) ml_L_26 okX9_told rfl rfl (hs.lt rfl) rfl rfl (Nat.le_of_ble_eq_true rfl) (rm_ok _ (by decide)) ⟨hc0, hs0⟩ ?_
  refine r_same (tgt := 1097) dL_law_260 (by omega) (eq_told J (gx G (i + 1)).toInt (gx G (i + 2)).toInt) ?_
  exact kk σ ⟨W, H, P, C, O, J.more⟩ (fun _ _ => rfl)
set_option maxHeartbeats 4000000 in
theorem law_survey (hs : Std n ρ) (J : JJ σ W H P C O B) (hi : i + 6 ≤ gL G) (hB : 0 ≤ B ∧ B ≤ 890000) (hc0 : c0 ≤ 600000) (hs0 : s0 ≤ 7302250) (kk : KK nm l G i c0 s0 n ρ σ B) : RW (KL nm l G) (c0, s0, n, ρ) σ 265 [.ref (gb G), rf G 0, rf G 38, iv i] [] := by
  have r1 := x32 (gx G (i + 1))
  have r2 := x32 (gx G (i + 2))
  have r3 := x32 (gx G (i + 3))
  refine r_aloadk_n dL_law_265 rfl ?_
  refine r_aload_n dL_law_266 rfl ?_
  refine r_iload_n dL_law_267 rfl ?_
  refine r_iconst dL_law_268 ?_
  refine r_iadd dL_law_269 ?_
  refine r_sld (c := i + 1) dL_law_270 (by omega) (show i + 1 < gL G by omega) ?_
  refine r_aload_n dL_law_271 rfl ?_
  refine r_iload_n dL_law_272 rfl ?_
  refine r_iconst dL_law_273 ?_
  refine r_iadd dL_law_274 ?_
  refine r_sld (c := i + 2) dL_law_275 (by omega) (show i + 2 < gL G by omega) ?_
  refine r_aload_n dL_law_276 rfl ?_
  refine r_iload_n dL_law_277 rfl ?_
  refine r_iconst dL_law_278 ?_
  refine r_iadd dL_law_279 ?_
  refine r_sld (c := i + 3) dL_law_280 (by omega) (show i + 3 < gL G by omega) ?_
  refine q_callVi dL_law_281 (c_survey hs J.1.1 (gx G (i + 1)).toInt (gx G (i + 2)).toInt (gx G (i + 3)).toInt r1 r2 r3) ml_L_27 okX8_survey rfl rfl (hs.lt rfl) rfl rfl (Nat.le_of_ble_eq_true rfl) (rm_ok _ (by decide)) ⟨hc0, hs0⟩ (fun σ1 z1 hq1 => ?_)
  have q1 : cQ_survey σ W H P C O (gx G (i + 1)).toInt (gx G (i + 2)).toInt (gx G (i + 3)).toInt σ1 z1 := hq1
  have cf := cf_survey J.1 r2 r3 q1
  refine r_aloadk_n dL_law_284 rfl ?_
  refine r_aload_n dL_law_285 rfl ?_
  refine r_iload_n dL_law_286 rfl ?_
  refine r_iconst dL_law_287 ?_
  refine r_iadd dL_law_288 ?_
  refine r_sld (c := i + 1) dL_law_289 (by omega) (show i + 1 < gL G by omega) ?_
  refine r_aload_n dL_law_290 rfl ?_
  refine r_iload_n dL_law_291 rfl ?_
  refine r_iconst dL_law_292 ?_
  refine r_iadd dL_law_293 ?_
  refine r_sld (c := i + 2) dL_law_294 (by omega) (show i + 2 < gL G by omega) ?_
  refine r_aload_n dL_law_295 rfl ?_
  refine r_iload_n dL_law_296 rfl ?_
  refine r_iconst dL_law_297 ?_
  refine r_iadd dL_law_298 ?_
  refine r_sld (c := i + 3) dL_law_299 (by omega) (show i + 3 < gL G by omega) ?_
  refine q_callVi dL_law_300 (m_survey hs (J.cf cf) (gx G (i + 1)).toInt (gx G (i + 2)).toInt (gx G (i + 3)).toInt r1 r2 r3) ml_L_30 okX9_survey rfl rfl (hs.lt rfl) rfl rfl (Nat.le_of_ble_eq_true rfl) (rm_ok _ (by decide)) ⟨hc0, hs0⟩ (fun σ2 z2 hq2 => ?_)
  have q2 : mQ_survey σ1 W H P C O (gx G (i + 1)).toInt (gx G (i + 2)).toInt (gx G (i + 3)).toInt σ2 z2 := hq2
  have st := st_survey J r2 r3 q1 q2
  refine r_same (tgt := 1097) dL_law_303 (by omega) st.1 ?_
  exact kk σ2 st.2.2 (fun k hk => (st.2.1 k hk).trans (cf.1 k (by omega)))
set_option maxHeartbeats 4000000 in
theorem law_lose (hs : Std n ρ) (J : JJ σ W H P C O B) (hi : i + 6 ≤ gL G) (hB : 0 ≤ B ∧ B ≤ 890000) (hc0 : c0 ≤ 600000) (hs0 : s0 ≤ 7302250) (kk : KK nm l G i c0 s0 n ρ σ B) : RW (KL nm l G) (c0, s0, n, ρ) σ 308 [.ref (gb G), rf G 0, rf G 38, iv i] [] := by
  have r1 := x32 (gx G (i + 1))
  refine r_aloadk_n dL_law_308 rfl ?_
  refine r_aload_n dL_law_309 rfl ?_
  refine r_iload_n dL_law_310 rfl ?_
  refine r_iconst dL_law_311 ?_
  refine r_iadd dL_law_312 ?_
  refine r_sld (c := i + 1) dL_law_313 (by omega) (show i + 1 < gL G by omega) ?_
  refine q_callVi dL_law_314 (c_lose hs J.1.1 (gx G (i + 1)).toInt r1) ml_L_31 okX8_lose rfl rfl (hs.lt rfl) rfl rfl (Nat.le_of_ble_eq_true rfl) (rm_ok _ (by decide)) ⟨hc0, hs0⟩ (fun σ1 z1 hq1 => ?_)
  have q1 : cQ_lose σ W H P C O (gx G (i + 1)).toInt σ1 z1 := hq1
  have cf := cf_lose J.1 q1
  refine r_aloadk_n dL_law_317 rfl ?_
  refine r_aload_n dL_law_318 rfl ?_
  refine r_iload_n dL_law_319 rfl ?_
  refine r_iconst dL_law_320 ?_
  refine r_iadd dL_law_321 ?_
  refine r_sld (c := i + 1) dL_law_322 (by omega) (show i + 1 < gL G by omega) ?_
  refine q_callVi dL_law_323 (m_lose hs (J.cf cf) (gx G (i + 1)).toInt r1) ml_L_35 okX9_lose rfl rfl (hs.lt rfl) rfl rfl (Nat.le_of_ble_eq_true rfl) (rm_ok _ (by decide)) ⟨hc0, hs0⟩ (fun σ2 z2 hq2 => ?_)
  have q2 : mQ_lose σ1 W H P C O (gx G (i + 1)).toInt σ2 z2 := hq2
  have st := st_lose J  q1 q2
  refine r_same (tgt := 1097) dL_law_326 (by omega) st.1 ?_
  exact kk σ2 st.2.2 (fun k hk => (st.2.1 k hk).trans (cf.1 k (by omega)))
set_option maxHeartbeats 4000000 in
theorem law_mark (hs : Std n ρ) (J : JJ σ W H P C O B) (hi : i + 6 ≤ gL G) (hB : 0 ≤ B ∧ B ≤ 890000) (hc0 : c0 ≤ 600000) (hs0 : s0 ≤ 7302250) (kk : KK nm l G i c0 s0 n ρ σ B) : RW (KL nm l G) (c0, s0, n, ρ) σ 331 [.ref (gb G), rf G 0, rf G 38, iv i] [] := by
  have r1 := x32 (gx G (i + 1))
  have r2 := x32 (gx G (i + 2))
  have r3 := x32 (gx G (i + 3))
  refine r_aloadk_n dL_law_331 rfl ?_
  refine r_aload_n dL_law_332 rfl ?_
  refine r_iload_n dL_law_333 rfl ?_
  refine r_iconst dL_law_334 ?_
  refine r_iadd dL_law_335 ?_
  refine r_sld (c := i + 1) dL_law_336 (by omega) (show i + 1 < gL G by omega) ?_
  refine r_aload_n dL_law_337 rfl ?_
  refine r_iload_n dL_law_338 rfl ?_
  refine r_iconst dL_law_339 ?_
  refine r_iadd dL_law_340 ?_
  refine r_sld (c := i + 2) dL_law_341 (by omega) (show i + 2 < gL G by omega) ?_
  refine r_aload_n dL_law_342 rfl ?_
  refine r_iload_n dL_law_343 rfl ?_
  refine r_iconst dL_law_344 ?_
  refine r_iadd dL_law_345 ?_
  refine r_sld (c := i + 3) dL_law_346 (by omega) (show i + 3 < gL G by omega) ?_
  refine q_callVi dL_law_347 (c_mark hs J.1.1 J.1.2.2.2.2.2.2.2.2.2.2.2.2.1 (gx G (i + 1)).toInt (gx G (i + 2)).toInt (gx G (i + 3)).toInt r1 r2 r3) ml_L_36 okX8_mark rfl rfl (hs.lt rfl) rfl rfl (Nat.le_of_ble_eq_true rfl) (rm_ok _ (by decide)) ⟨hc0, hs0⟩ (fun σ1 z1 hq1 => ?_)
  have q1 : cQ_mark σ W H P C O (gx G (i + 1)).toInt (gx G (i + 2)).toInt (gx G (i + 3)).toInt σ1 z1 := hq1
  have cf := cf_mark J.1 r3 q1
  refine r_aloadk_n dL_law_350 rfl ?_
  refine r_aload_n dL_law_351 rfl ?_
  refine r_iload_n dL_law_352 rfl ?_
  refine r_iconst dL_law_353 ?_
  refine r_iadd dL_law_354 ?_
  refine r_sld (c := i + 1) dL_law_355 (by omega) (show i + 1 < gL G by omega) ?_
  refine r_aload_n dL_law_356 rfl ?_
  refine r_iload_n dL_law_357 rfl ?_
  refine r_iconst dL_law_358 ?_
  refine r_iadd dL_law_359 ?_
  refine r_sld (c := i + 2) dL_law_360 (by omega) (show i + 2 < gL G by omega) ?_
  refine r_aload_n dL_law_361 rfl ?_
  refine r_iload_n dL_law_362 rfl ?_
  refine r_iconst dL_law_363 ?_
  refine r_iadd dL_law_364 ?_
  refine r_sld (c := i + 3) dL_law_365 (by omega) (show i + 3 < gL G by omega) ?_
  refine q_callVi dL_law_366 (m_mark hs (J.cf cf) (gx G (i + 1)).toInt (gx G (i + 2)).toInt (gx G (i + 3)).toInt r1 r2 r3) ml_L_39 okX9_mark rfl rfl (hs.lt rfl) rfl rfl (Nat.le_of_ble_eq_true rfl) (rm_ok _ (by decide)) ⟨hc0, hs0⟩ (fun σ2 z2 hq2 => ?_)
  have q2 : mQ_mark σ1 W H P C O (gx G (i + 1)).toInt (gx G (i + 2)).toInt (gx G (i + 3)).toInt σ2 z2 := hq2
  have st := st_mark J r3 q1 q2
  refine r_same (tgt := 1097) dL_law_369 (by omega) st.1 ?_
  exact kk σ2 st.2.2 (fun k hk => (st.2.1 k hk).trans (cf.1 k (by omega)))
set_option maxHeartbeats 4000000 in
theorem law_copy (hs : Std n ρ) (J : JJ σ W H P C O B) (hi : i + 6 ≤ gL G) (hB : 0 ≤ B ∧ B ≤ 890000) (hc0 : c0 ≤ 600000) (hs0 : s0 ≤ 7302250) (kk : KK nm l G i c0 s0 n ρ σ B) : RW (KL nm l G) (c0, s0, n, ρ) σ 374 [.ref (gb G), rf G 0, rf G 38, iv i] [] := by
  have r1 := x32 (gx G (i + 1))
  have r2 := x32 (gx G (i + 2))
  have r3 := x32 (gx G (i + 3))
  have r4 := x32 (gx G (i + 4))
  have r5 := x32 (gx G (i + 5))
  refine r_aloadk_n dL_law_374 rfl ?_
  refine r_aload_n dL_law_375 rfl ?_
  refine r_iload_n dL_law_376 rfl ?_
  refine r_iconst dL_law_377 ?_
  refine r_iadd dL_law_378 ?_
  refine r_sld (c := i + 1) dL_law_379 (by omega) (show i + 1 < gL G by omega) ?_
  refine r_aload_n dL_law_380 rfl ?_
  refine r_iload_n dL_law_381 rfl ?_
  refine r_iconst dL_law_382 ?_
  refine r_iadd dL_law_383 ?_
  refine r_sld (c := i + 2) dL_law_384 (by omega) (show i + 2 < gL G by omega) ?_
  refine r_aload_n dL_law_385 rfl ?_
  refine r_iload_n dL_law_386 rfl ?_
  refine r_iconst dL_law_387 ?_
  refine r_iadd dL_law_388 ?_
  refine r_sld (c := i + 3) dL_law_389 (by omega) (show i + 3 < gL G by omega) ?_
  refine r_aload_n dL_law_390 rfl ?_
  refine r_iload_n dL_law_391 rfl ?_
  refine r_iconst dL_law_392 ?_
  refine r_iadd dL_law_393 ?_
  refine r_sld (c := i + 4) dL_law_394 (by omega) (show i + 4 < gL G by omega) ?_
  refine r_aload_n dL_law_395 rfl ?_
  refine r_iload_n dL_law_396 rfl ?_
  refine r_iconst dL_law_397 ?_
  refine r_iadd dL_law_398 ?_
  refine r_sld (c := i + 5) dL_law_399 (by omega) (show i + 5 < gL G by omega) ?_
  refine q_callVi dL_law_400 (c_copy hs J.1 (gx G (i + 1)).toInt (gx G (i + 2)).toInt (gx G (i + 3)).toInt (gx G (i + 4)).toInt (gx G (i + 5)).toInt r1 r2 r3 r4 r5) ml_L_40 okX8_copy rfl rfl (hs.lt rfl) rfl rfl (Nat.le_of_ble_eq_true rfl) (rm_ok _ (by decide)) ⟨hc0, hs0⟩ (fun σ1 z1 hq1 => ?_)
  have q1 : cQ_copy σ W H P C O (gx G (i + 1)).toInt (gx G (i + 2)).toInt (gx G (i + 3)).toInt (gx G (i + 4)).toInt (gx G (i + 5)).toInt σ1 z1 := hq1
  have cf := cf_copy J.1 q1
  refine r_aloadk_n dL_law_403 rfl ?_
  refine r_aload_n dL_law_404 rfl ?_
  refine r_iload_n dL_law_405 rfl ?_
  refine r_iconst dL_law_406 ?_
  refine r_iadd dL_law_407 ?_
  refine r_sld (c := i + 1) dL_law_408 (by omega) (show i + 1 < gL G by omega) ?_
  refine r_aload_n dL_law_409 rfl ?_
  refine r_iload_n dL_law_410 rfl ?_
  refine r_iconst dL_law_411 ?_
  refine r_iadd dL_law_412 ?_
  refine r_sld (c := i + 2) dL_law_413 (by omega) (show i + 2 < gL G by omega) ?_
  refine r_aload_n dL_law_414 rfl ?_
  refine r_iload_n dL_law_415 rfl ?_
  refine r_iconst dL_law_416 ?_
  refine r_iadd dL_law_417 ?_
  refine r_sld (c := i + 3) dL_law_418 (by omega) (show i + 3 < gL G by omega) ?_
  refine r_aload_n dL_law_419 rfl ?_
  refine r_iload_n dL_law_420 rfl ?_
  refine r_iconst dL_law_421 ?_
  refine r_iadd dL_law_422 ?_
  refine r_sld (c := i + 4) dL_law_423 (by omega) (show i + 4 < gL G by omega) ?_
  refine r_aload_n dL_law_424 rfl ?_
  refine r_iload_n dL_law_425 rfl ?_
  refine r_iconst dL_law_426 ?_
  refine r_iadd dL_law_427 ?_
  refine r_sld (c := i + 5) dL_law_428 (by omega) (show i + 5 < gL G by omega) ?_
  refine q_callVi dL_law_429 (m_copy hs (J.cf cf) (gx G (i + 1)).toInt (gx G (i + 2)).toInt (gx G (i + 3)).toInt (gx G (i + 4)).toInt (gx G (i + 5)).toInt r1 r2 r3 r4 r5) ml_L_44 okX9_copy rfl rfl (hs.lt rfl) rfl rfl (Nat.le_of_ble_eq_true rfl) (rm_ok _ (by decide)) ⟨hc0, hs0⟩ (fun σ2 z2 hq2 => ?_)
  have q2 : mQ_copy σ1 W H P C O (gx G (i + 1)).toInt (gx G (i + 2)).toInt (gx G (i + 3)).toInt (gx G (i + 4)).toInt (gx G (i + 5)).toInt σ2 z2 := hq2
  have st := st_copy J  q1 q2
  refine r_same (tgt := 1097) dL_law_432 (by omega) st.1 ?_
  exact kk σ2 st.2.2 (fun k hk => (st.2.1 k hk).trans (cf.1 k (by omega)))
set_option maxHeartbeats 4000000 in
theorem law_read (hs : Std n ρ) (J : JJ σ W H P C O B) (hi : i + 6 ≤ gL G) (hB : 0 ≤ B ∧ B ≤ 890000) (hc0 : c0 ≤ 600000) (hs0 : s0 ≤ 7302250) (kk : KK nm l G i c0 s0 n ρ σ B) : RW (KL nm l G) (c0, s0, n, ρ) σ 437 [.ref (gb G), rf G 0, rf G 38, iv i] [] := by
  have r1 := x32 (gx G (i + 1))
  by_cases hb : 0 ≤ (gx G (i + 1)).toInt ∧ (gx G (i + 1)).toInt ≤ 2
  · obtain ⟨s, hsx⟩ : ∃ s : Nat, (gx G (i + 1)).toInt = s := ⟨(gx G (i + 1)).toInt.toNat, by omega⟩
    have hs3 : s < 3 := by omega
    refine r_aloadk_n dL_law_437 rfl ?_
    refine r_aload_n dL_law_438 rfl ?_
    refine r_iload_n dL_law_439 rfl ?_
    refine r_iconst dL_law_440 ?_
    refine r_iadd dL_law_441 ?_
    refine r_sld (c := i + 1) dL_law_442 (by omega) (show i + 1 < gL G by omega) ?_
    refine show RW _ _ _ _ _ (iv (gx G (i + 1)).toInt :: _) from ?_
    rw [hsx]
    refine q_callVi dL_law_443 (c_read0 hs J.1 s hs3) ml_L_45 okX8_read rfl rfl (hs.lt rfl) rfl rfl (Nat.le_of_ble_eq_true rfl) (rm_ok _ (by decide)) ⟨hc0, hs0⟩ (fun σ1 z1 hq1 => ?_)
    have q1 : cQ_read σ W H s σ1 z1 := hq1
    have cf := cf_read J.1 hs3 q1
    refine r_aloadk_n dL_law_446 rfl ?_
    refine r_aload_n dL_law_447 rfl ?_
    refine r_iload_n dL_law_448 rfl ?_
    refine r_iconst dL_law_449 ?_
    refine r_iadd dL_law_450 ?_
    refine r_sld (c := i + 1) dL_law_451 (by omega) (show i + 1 < gL G by omega) ?_
    refine show RW _ _ _ _ _ (iv (gx G (i + 1)).toInt :: _) from ?_
    rw [hsx]
    refine q_callVi dL_law_452 (m_read hs (J.cf cf) s hs3) ml_L_48 okX9_read rfl rfl (hs.lt rfl) rfl rfl (Nat.le_of_ble_eq_true rfl) (rm_ok _ (by decide)) ⟨hc0, hs0⟩ (fun σ2 z2 hq2 => ?_)
    have q2 : mQ_read σ1 W H s σ2 z2 := hq2
    have st := st_read J hs3 q1 q2
    refine r_same (tgt := 1097) dL_law_455 (by omega) st.1 ?_
    exact kk σ2 st.2.2 (fun k hk => (st.2.1 k hk).trans (cf.1 k (by omega)))
  · have hu : True := trivial
    refine r_aloadk_n dL_law_437 rfl ?_
    refine r_aload_n dL_law_438 rfl ?_
    refine r_iload_n dL_law_439 rfl ?_
    refine r_iconst dL_law_440 ?_
    refine r_iadd dL_law_441 ?_
    refine r_sld (c := i + 1) dL_law_442 (by omega) (show i + 1 < gL G by omega) ?_
    refine q_callVr dL_law_443 (c_readB hs (gx G (i + 1)).toInt r1 hb) ml_L_45 okX8_read rfl rfl (hs.lt rfl) rfl rfl (Nat.le_of_ble_eq_true rfl) (rm_ok _ (by decide)) ⟨hc0, hs0⟩ ?_
    refine r_aloadk_n dL_law_446 rfl ?_
    refine r_aload_n dL_law_447 rfl ?_
    refine r_iload_n dL_law_448 rfl ?_
    refine r_iconst dL_law_449 ?_
    refine r_iadd dL_law_450 ?_
    refine r_sld (c := i + 1) dL_law_451 (by omega) (show i + 1 < gL G by omega) ?_
    refine q_callVr dL_law_452 (m_readB hs J.2.1 (gx G (i + 1)).toInt r1 hb) ml_L_48 okX9_read rfl rfl (hs.lt rfl) rfl rfl (Nat.le_of_ble_eq_true rfl) (rm_ok _ (by decide)) ⟨hc0, hs0⟩ ?_
    refine r_same (tgt := 1097) dL_law_455 (by omega) rfl ?_
    exact kk σ ⟨W, H, P, C, O, J.more⟩ (fun _ _ => rfl)
set_option maxHeartbeats 4000000 in
theorem law_road (hs : Std n ρ) (J : JJ σ W H P C O B) (hi : i + 6 ≤ gL G) (hB : 0 ≤ B ∧ B ≤ 890000) (hc0 : c0 ≤ 600000) (hs0 : s0 ≤ 7302250) (kk : KK nm l G i c0 s0 n ρ σ B) : RW (KL nm l G) (c0, s0, n, ρ) σ 460 [.ref (gb G), rf G 0, rf G 38, iv i] [] := by
  have r1 := x32 (gx G (i + 1))
  have r2 := x32 (gx G (i + 2))
  refine r_aloadk_n dL_law_460 rfl ?_
  refine r_aload_n dL_law_461 rfl ?_
  refine r_iload_n dL_law_462 rfl ?_
  refine r_iconst dL_law_463 ?_
  refine r_iadd dL_law_464 ?_
  refine r_sld (c := i + 1) dL_law_465 (by omega) (show i + 1 < gL G by omega) ?_
  refine r_aload_n dL_law_466 rfl ?_
  refine r_iload_n dL_law_467 rfl ?_
  refine r_iconst dL_law_468 ?_
  refine r_iadd dL_law_469 ?_
  refine r_sld (c := i + 2) dL_law_470 (by omega) (show i + 2 < gL G by omega) ?_
  refine q_callVi dL_law_471 (c_road hs J.1 (gx G (i + 1)).toInt (gx G (i + 2)).toInt r1 r2) ml_L_49 okX8_road rfl rfl (hs.lt rfl) rfl rfl (Nat.le_of_ble_eq_true rfl) (rm_ok _ (by decide)) ⟨hc0, hs0⟩ (fun σ1 z1 hq1 => ?_)
  have q1 : cQ_road σ W H P C O (gx G (i + 1)).toInt (gx G (i + 2)).toInt σ1 z1 := hq1
  have cf := cf_road J.1 (by have := J.2.2.2; omega) q1
  refine r_aloadk_n dL_law_474 rfl ?_
  refine r_aload_n dL_law_475 rfl ?_
  refine r_iload_n dL_law_476 rfl ?_
  refine r_iconst dL_law_477 ?_
  refine r_iadd dL_law_478 ?_
  refine r_sld (c := i + 1) dL_law_479 (by omega) (show i + 1 < gL G by omega) ?_
  refine r_aload_n dL_law_480 rfl ?_
  refine r_iload_n dL_law_481 rfl ?_
  refine r_iconst dL_law_482 ?_
  refine r_iadd dL_law_483 ?_
  refine r_sld (c := i + 2) dL_law_484 (by omega) (show i + 2 < gL G by omega) ?_
  refine q_callVi dL_law_485 (m_road hs (J.cf cf) (gx G (i + 1)).toInt (gx G (i + 2)).toInt r1 r2) ml_L_52 okX9_road rfl rfl (hs.lt rfl) rfl rfl (Nat.le_of_ble_eq_true rfl) (rm_ok _ (by decide)) ⟨hc0, hs0⟩ (fun σ2 z2 hq2 => ?_)
  have q2 : mQ_road σ1 W H P C O (gx G (i + 1)).toInt (gx G (i + 2)).toInt σ2 z2 := hq2
  have st := st_road J hB.2 q1 q2
  refine r_same (tgt := 1097) dL_law_488 (by omega) st.1 ?_
  exact kk σ2 st.2.2 (fun k hk => (st.2.1 k hk).trans (cf.1 k (by omega)))
set_option maxHeartbeats 4000000 in
theorem law_claimant (hs : Std n ρ) (J : JJ σ W H P C O B) (hi : i + 6 ≤ gL G) (hB : 0 ≤ B ∧ B ≤ 890000) (hc0 : c0 ≤ 600000) (hs0 : s0 ≤ 7302250) (kk : KK nm l G i c0 s0 n ρ σ B) : RW (KL nm l G) (c0, s0, n, ρ) σ 493 [.ref (gb G), rf G 0, rf G 38, iv i] [] := by
  have r1 := x32 (gx G (i + 1))
  have r2 := x32 (gx G (i + 2))
  refine r_aloadk_n dL_law_493 rfl ?_
  refine r_aload_n dL_law_494 rfl ?_
  refine r_iload_n dL_law_495 rfl ?_
  refine r_iconst dL_law_496 ?_
  refine r_iadd dL_law_497 ?_
  refine r_sld (c := i + 1) dL_law_498 (by omega) (show i + 1 < gL G by omega) ?_
  refine r_aload_n dL_law_499 rfl ?_
  refine r_iload_n dL_law_500 rfl ?_
  refine r_iconst dL_law_501 ?_
  refine r_iadd dL_law_502 ?_
  refine r_sld (c := i + 2) dL_law_503 (by omega) (show i + 2 < gL G by omega) ?_
  refine q_callVi dL_law_504 (c_claimant hs J.1 (gx G (i + 1)).toInt (gx G (i + 2)).toInt r1 r2) ml_L_53 okX8_claimant rfl rfl (hs.lt rfl) rfl rfl (Nat.le_of_ble_eq_true rfl) (rm_ok _ (by decide)) ⟨hc0, hs0⟩ (fun σ1 z1 hq1 => ?_)
  have q1 : cQ_claimant σ W H P C O (gx G (i + 1)).toInt (gx G (i + 2)).toInt σ1 z1 := hq1
  have cf := cf_claimant J.1 r1 r2 q1
  refine r_aloadk_n dL_law_507 rfl ?_
  refine r_aload_n dL_law_508 rfl ?_
  refine r_iload_n dL_law_509 rfl ?_
  refine r_iconst dL_law_510 ?_
  refine r_iadd dL_law_511 ?_
  refine r_sld (c := i + 1) dL_law_512 (by omega) (show i + 1 < gL G by omega) ?_
  refine r_aload_n dL_law_513 rfl ?_
  refine r_iload_n dL_law_514 rfl ?_
  refine r_iconst dL_law_515 ?_
  refine r_iadd dL_law_516 ?_
  refine r_sld (c := i + 2) dL_law_517 (by omega) (show i + 2 < gL G by omega) ?_
  refine q_callVi dL_law_518 (m_claimant hs (J.cf cf) (gx G (i + 1)).toInt (gx G (i + 2)).toInt r1 r2) ml_L_56 okX9_claimant rfl rfl (hs.lt rfl) rfl rfl (Nat.le_of_ble_eq_true rfl) (rm_ok _ (by decide)) ⟨hc0, hs0⟩ (fun σ2 z2 hq2 => ?_)
  have q2 : mQ_claimant σ1 W H P C O (gx G (i + 1)).toInt (gx G (i + 2)).toInt σ2 z2 := hq2
  have st := st_claimant J r1 r2 q1 q2
  refine r_same (tgt := 1097) dL_law_521 (by omega) st.1 ?_
  exact kk σ2 st.2.2 (fun k hk => (st.2.1 k hk).trans (cf.1 k (by omega)))
set_option maxHeartbeats 4000000 in
theorem law_isOf (hs : Std n ρ) (J : JJ σ W H P C O B) (hi : i + 6 ≤ gL G) (hB : 0 ≤ B ∧ B ≤ 890000) (hc0 : c0 ≤ 600000) (hs0 : s0 ≤ 7302250) (kk : KK nm l G i c0 s0 n ρ σ B) : RW (KL nm l G) (c0, s0, n, ρ) σ 526 [.ref (gb G), rf G 0, rf G 38, iv i] [] := by
  have r1 := x32 (gx G (i + 1))
  have r2 := x32 (gx G (i + 2))
  refine r_aloadk_n dL_law_526 rfl ?_
  refine r_aload_n dL_law_527 rfl ?_
  refine r_iload_n dL_law_528 rfl ?_
  refine r_iconst dL_law_529 ?_
  refine r_iadd dL_law_530 ?_
  refine r_sld (c := i + 1) dL_law_531 (by omega) (show i + 1 < gL G by omega) ?_
  refine r_aload_n dL_law_532 rfl ?_
  refine r_iload_n dL_law_533 rfl ?_
  refine r_iconst dL_law_534 ?_
  refine r_iadd dL_law_535 ?_
  refine r_sld (c := i + 2) dL_law_536 (by omega) (show i + 2 < gL G by omega) ?_
  refine q_callVr dL_law_537 (c_isOf hs J.1 (gx G (i + 1)).toInt (gx G (i + 2)).toInt r1 r2) ml_L_57 okX8_isOf rfl rfl (hs.lt rfl) rfl rfl (Nat.le_of_ble_eq_true rfl) (rm_ok _ (by decide)) ⟨hc0, hs0⟩ ?_
  refine r_aloadk_n dL_law_540 rfl ?_
  refine r_aload_n dL_law_541 rfl ?_
  refine r_iload_n dL_law_542 rfl ?_
  refine r_iconst dL_law_543 ?_
  refine r_iadd dL_law_544 ?_
  refine r_sld (c := i + 1) dL_law_545 (by omega) (show i + 1 < gL G by omega) ?_
  refine r_aload_n dL_law_546 rfl ?_
  refine r_iload_n dL_law_547 rfl ?_
  refine r_iconst dL_law_548 ?_
  refine r_iadd dL_law_549 ?_
  refine r_sld (c := i + 2) dL_law_550 (by omega) (show i + 2 < gL G by omega) ?_
  refine q_callVr dL_law_551 (m_isOf hs J.2.1 (gx G (i + 1)).toInt (gx G (i + 2)).toInt r1 r2) ml_L_60 okX9_isOf rfl rfl (hs.lt rfl) rfl rfl (Nat.le_of_ble_eq_true rfl) (rm_ok _ (by decide)) ⟨hc0, hs0⟩ ?_
  refine r_same (tgt := 1097) dL_law_554 (by omega) (eq_isOf J (gx G (i + 1)).toInt (gx G (i + 2)).toInt) ?_
  exact kk σ ⟨W, H, P, C, O, J.more⟩ (fun _ _ => rfl)
set_option maxHeartbeats 4000000 in
theorem law_claim (hs : Std n ρ) (J : JJ σ W H P C O B) (hi : i + 6 ≤ gL G) (hB : 0 ≤ B ∧ B ≤ 890000) (hc0 : c0 ≤ 600000) (hs0 : s0 ≤ 7302250) (kk : KK nm l G i c0 s0 n ρ σ B) : RW (KL nm l G) (c0, s0, n, ρ) σ 559 [.ref (gb G), rf G 0, rf G 38, iv i] [] := by
  have r1 := x32 (gx G (i + 1))
  have r2 := x32 (gx G (i + 2))
  have r3 := x32 (gx G (i + 3))
  have r4 := x32 (gx G (i + 4))
  refine r_aloadk_n dL_law_559 rfl ?_
  refine r_aload_n dL_law_560 rfl ?_
  refine r_iload_n dL_law_561 rfl ?_
  refine r_iconst dL_law_562 ?_
  refine r_iadd dL_law_563 ?_
  refine r_sld (c := i + 1) dL_law_564 (by omega) (show i + 1 < gL G by omega) ?_
  refine r_aload_n dL_law_565 rfl ?_
  refine r_iload_n dL_law_566 rfl ?_
  refine r_iconst dL_law_567 ?_
  refine r_iadd dL_law_568 ?_
  refine r_sld (c := i + 2) dL_law_569 (by omega) (show i + 2 < gL G by omega) ?_
  refine r_aload_n dL_law_570 rfl ?_
  refine r_iload_n dL_law_571 rfl ?_
  refine r_iconst dL_law_572 ?_
  refine r_iadd dL_law_573 ?_
  refine r_sld (c := i + 3) dL_law_574 (by omega) (show i + 3 < gL G by omega) ?_
  refine r_aload_n dL_law_575 rfl ?_
  refine r_iload_n dL_law_576 rfl ?_
  refine r_iconst dL_law_577 ?_
  refine r_iadd dL_law_578 ?_
  refine r_sld (c := i + 4) dL_law_579 (by omega) (show i + 4 < gL G by omega) ?_
  refine q_callVi dL_law_580 (c_claim hs J.1 (gx G (i + 1)).toInt (gx G (i + 2)).toInt (gx G (i + 3)).toInt (gx G (i + 4)).toInt r1 r2 r3 r4) ml_L_61 okX8_claim rfl rfl (hs.lt rfl) rfl rfl (Nat.le_of_ble_eq_true rfl) (rm_ok _ (by decide)) ⟨hc0, hs0⟩ (fun σ1 z1 hq1 => ?_)
  have q1 : cQ_claim σ W H P C O (gx G (i + 1)).toInt (gx G (i + 2)).toInt (gx G (i + 3)).toInt (gx G (i + 4)).toInt σ1 z1 := hq1
  have cf := cf_claim J.1 r1 r2 r3 r4 q1
  refine r_aloadk_n dL_law_583 rfl ?_
  refine r_aload_n dL_law_584 rfl ?_
  refine r_iload_n dL_law_585 rfl ?_
  refine r_iconst dL_law_586 ?_
  refine r_iadd dL_law_587 ?_
  refine r_sld (c := i + 1) dL_law_588 (by omega) (show i + 1 < gL G by omega) ?_
  refine r_aload_n dL_law_589 rfl ?_
  refine r_iload_n dL_law_590 rfl ?_
  refine r_iconst dL_law_591 ?_
  refine r_iadd dL_law_592 ?_
  refine r_sld (c := i + 2) dL_law_593 (by omega) (show i + 2 < gL G by omega) ?_
  refine r_aload_n dL_law_594 rfl ?_
  refine r_iload_n dL_law_595 rfl ?_
  refine r_iconst dL_law_596 ?_
  refine r_iadd dL_law_597 ?_
  refine r_sld (c := i + 3) dL_law_598 (by omega) (show i + 3 < gL G by omega) ?_
  refine r_aload_n dL_law_599 rfl ?_
  refine r_iload_n dL_law_600 rfl ?_
  refine r_iconst dL_law_601 ?_
  refine r_iadd dL_law_602 ?_
  refine r_sld (c := i + 4) dL_law_603 (by omega) (show i + 4 < gL G by omega) ?_
  refine q_callVi dL_law_604 (m_claim hs (J.cf cf) (gx G (i + 1)).toInt (gx G (i + 2)).toInt (gx G (i + 3)).toInt (gx G (i + 4)).toInt r1 r2 r3 r4) ml_L_65 okX9_claim rfl rfl (hs.lt rfl) rfl rfl (Nat.le_of_ble_eq_true rfl) (rm_ok _ (by decide)) ⟨hc0, hs0⟩ (fun σ2 z2 hq2 => ?_)
  have q2 : mQ_claim σ1 W H P C O (gx G (i + 1)).toInt (gx G (i + 2)).toInt (gx G (i + 3)).toInt (gx G (i + 4)).toInt σ2 z2 := hq2
  have st := st_claim J r1 r2 r3 r4 q1 q2
  refine r_same (tgt := 1097) dL_law_607 (by omega) st.1 ?_
  exact kk σ2 st.2.2 (fun k hk => (st.2.1 k hk).trans (cf.1 k (by omega)))
set_option maxHeartbeats 4000000 in
theorem law_withdraw (hs : Std n ρ) (J : JJ σ W H P C O B) (hi : i + 6 ≤ gL G) (hB : 0 ≤ B ∧ B ≤ 890000) (hc0 : c0 ≤ 600000) (hs0 : s0 ≤ 7302250) (kk : KK nm l G i c0 s0 n ρ σ B) : RW (KL nm l G) (c0, s0, n, ρ) σ 612 [.ref (gb G), rf G 0, rf G 38, iv i] [] := by
  refine r_aloadk_n dL_law_612 rfl ?_
  refine q_callVi dL_law_613 (c_withdraw hs J.1) ml_L_66 okX8_withdraw rfl rfl (hs.lt rfl) rfl rfl (Nat.le_of_ble_eq_true rfl) (rm_ok _ (by decide)) ⟨hc0, hs0⟩ (fun σ1 z1 hq1 => ?_)
  have q1 : cQ_withdraw σ W H P C O σ1 z1 := hq1
  have cf := cf_withdraw J.1 q1
  refine r_aloadk_n dL_law_616 rfl ?_
  refine q_callVi dL_law_617 (m_withdraw hs (J.cf cf)  ) ml_L_70 okX9_withdraw rfl rfl (hs.lt rfl) rfl rfl (Nat.le_of_ble_eq_true rfl) (rm_ok _ (by decide)) ⟨hc0, hs0⟩ (fun σ2 z2 hq2 => ?_)
  have q2 : mQ_withdraw σ1 W H P C O  σ2 z2 := hq2
  have st := st_withdraw J  q1 q2
  refine r_same (tgt := 1097) dL_law_620 (by omega) st.1 ?_
  exact kk σ2 st.2.2 (fun k hk => (st.2.1 k hk).trans (cf.1 k (by omega)))
set_option maxHeartbeats 4000000 in
theorem law_rule (hs : Std n ρ) (J : JJ σ W H P C O B) (hi : i + 6 ≤ gL G) (hB : 0 ≤ B ∧ B ≤ 890000) (hc0 : c0 ≤ 600000) (hs0 : s0 ≤ 7302250) (kk : KK nm l G i c0 s0 n ρ σ B) : RW (KL nm l G) (c0, s0, n, ρ) σ 625 [.ref (gb G), rf G 0, rf G 38, iv i] [] := by
  have r1 := x32 (gx G (i + 1))
  have r2 := x32 (gx G (i + 2))
  refine r_aloadk_n dL_law_625 rfl ?_
  refine r_aload_n dL_law_626 rfl ?_
  refine r_iload_n dL_law_627 rfl ?_
  refine r_iconst dL_law_628 ?_
  refine r_iadd dL_law_629 ?_
  refine r_sld (c := i + 1) dL_law_630 (by omega) (show i + 1 < gL G by omega) ?_
  refine r_aload_n dL_law_631 rfl ?_
  refine r_iload_n dL_law_632 rfl ?_
  refine r_iconst dL_law_633 ?_
  refine r_iadd dL_law_634 ?_
  refine r_sld (c := i + 2) dL_law_635 (by omega) (show i + 2 < gL G by omega) ?_
  refine q_callVi dL_law_636 (c_rule hs J.1 (gx G (i + 1)).toInt (gx G (i + 2)).toInt r1 r2) ml_L_71 okX8_rule rfl rfl (hs.lt rfl) rfl rfl (Nat.le_of_ble_eq_true rfl) (rm_ok _ (by decide)) ⟨hc0, hs0⟩ (fun σ1 z1 hq1 => ?_)
  have q1 : cQ_rule σ W H P C O (gx G (i + 1)).toInt (gx G (i + 2)).toInt σ1 z1 := hq1
  have cf := cf_rule J.1 r2 q1
  refine r_aloadk_n dL_law_639 rfl ?_
  refine r_aload_n dL_law_640 rfl ?_
  refine r_iload_n dL_law_641 rfl ?_
  refine r_iconst dL_law_642 ?_
  refine r_iadd dL_law_643 ?_
  refine r_sld (c := i + 1) dL_law_644 (by omega) (show i + 1 < gL G by omega) ?_
  refine r_aload_n dL_law_645 rfl ?_
  refine r_iload_n dL_law_646 rfl ?_
  refine r_iconst dL_law_647 ?_
  refine r_iadd dL_law_648 ?_
  refine r_sld (c := i + 2) dL_law_649 (by omega) (show i + 2 < gL G by omega) ?_
  refine q_callVi dL_law_650 (m_rule hs (J.cf cf) (gx G (i + 1)).toInt (gx G (i + 2)).toInt r1 r2) ml_L_74 okX9_rule rfl rfl (hs.lt rfl) rfl rfl (Nat.le_of_ble_eq_true rfl) (rm_ok _ (by decide)) ⟨hc0, hs0⟩ (fun σ2 z2 hq2 => ?_)
  have q2 : mQ_rule σ1 W H P C O (gx G (i + 1)).toInt (gx G (i + 2)).toInt σ2 z2 := hq2
  have st := st_rule J r2 q1 q2
  refine r_same (tgt := 1097) dL_law_653 (by omega) st.1 ?_
  exact kk σ2 st.2.2 (fun k hk => (st.2.1 k hk).trans (cf.1 k (by omega)))
set_option maxHeartbeats 4000000 in
theorem law_object (hs : Std n ρ) (J : JJ σ W H P C O B) (hi : i + 6 ≤ gL G) (hB : 0 ≤ B ∧ B ≤ 890000) (hc0 : c0 ≤ 600000) (hs0 : s0 ≤ 7302250) (kk : KK nm l G i c0 s0 n ρ σ B) : RW (KL nm l G) (c0, s0, n, ρ) σ 658 [.ref (gb G), rf G 0, rf G 38, iv i] [] := by
  have r1 := x32 (gx G (i + 1))
  have r2 := x32 (gx G (i + 2))
  have r3 := x32 (gx G (i + 3))
  refine r_aloadk_n dL_law_658 rfl ?_
  refine r_aload_n dL_law_659 rfl ?_
  refine r_iload_n dL_law_660 rfl ?_
  refine r_iconst dL_law_661 ?_
  refine r_iadd dL_law_662 ?_
  refine r_sld (c := i + 1) dL_law_663 (by omega) (show i + 1 < gL G by omega) ?_
  refine r_aload_n dL_law_664 rfl ?_
  refine r_iload_n dL_law_665 rfl ?_
  refine r_iconst dL_law_666 ?_
  refine r_iadd dL_law_667 ?_
  refine r_sld (c := i + 2) dL_law_668 (by omega) (show i + 2 < gL G by omega) ?_
  refine r_aload_n dL_law_669 rfl ?_
  refine r_iload_n dL_law_670 rfl ?_
  refine r_iconst dL_law_671 ?_
  refine r_iadd dL_law_672 ?_
  refine r_sld (c := i + 3) dL_law_673 (by omega) (show i + 3 < gL G by omega) ?_
  refine q_callVi dL_law_674 (c_object hs J.1 (gx G (i + 1)).toInt (gx G (i + 2)).toInt (gx G (i + 3)).toInt r1 r2 r3) ml_L_75 okX8_object rfl rfl (hs.lt rfl) rfl rfl (Nat.le_of_ble_eq_true rfl) (rm_ok _ (by decide)) ⟨hc0, hs0⟩ (fun σ1 z1 hq1 => ?_)
  have q1 : cQ_object σ W H P C O (gx G (i + 1)).toInt (gx G (i + 2)).toInt (gx G (i + 3)).toInt σ1 z1 := hq1
  have cf := cf_object J.1 r1 r2 r3 q1
  refine r_aloadk_n dL_law_677 rfl ?_
  refine r_aload_n dL_law_678 rfl ?_
  refine r_iload_n dL_law_679 rfl ?_
  refine r_iconst dL_law_680 ?_
  refine r_iadd dL_law_681 ?_
  refine r_sld (c := i + 1) dL_law_682 (by omega) (show i + 1 < gL G by omega) ?_
  refine r_aload_n dL_law_683 rfl ?_
  refine r_iload_n dL_law_684 rfl ?_
  refine r_iconst dL_law_685 ?_
  refine r_iadd dL_law_686 ?_
  refine r_sld (c := i + 2) dL_law_687 (by omega) (show i + 2 < gL G by omega) ?_
  refine r_aload_n dL_law_688 rfl ?_
  refine r_iload_n dL_law_689 rfl ?_
  refine r_iconst dL_law_690 ?_
  refine r_iadd dL_law_691 ?_
  refine r_sld (c := i + 3) dL_law_692 (by omega) (show i + 3 < gL G by omega) ?_
  refine q_callVi dL_law_693 (m_object hs (J.cf cf) (gx G (i + 1)).toInt (gx G (i + 2)).toInt (gx G (i + 3)).toInt r1 r2 r3) ml_L_78 okX9_object rfl rfl (hs.lt rfl) rfl rfl (Nat.le_of_ble_eq_true rfl) (rm_ok _ (by decide)) ⟨hc0, hs0⟩ (fun σ2 z2 hq2 => ?_)
  have q2 : mQ_object σ1 W H P C O (gx G (i + 1)).toInt (gx G (i + 2)).toInt (gx G (i + 3)).toInt σ2 z2 := hq2
  have st := st_object J r1 r2 r3 q1 q2
  refine r_same (tgt := 1097) dL_law_696 (by omega) st.1 ?_
  exact kk σ2 st.2.2 (fun k hk => (st.2.1 k hk).trans (cf.1 k (by omega)))
set_option maxHeartbeats 4000000 in
theorem law_upheld (hs : Std n ρ) (J : JJ σ W H P C O B) (hi : i + 6 ≤ gL G) (hB : 0 ≤ B ∧ B ≤ 890000) (hc0 : c0 ≤ 600000) (hs0 : s0 ≤ 7302250) (kk : KK nm l G i c0 s0 n ρ σ B) : RW (KL nm l G) (c0, s0, n, ρ) σ 701 [.ref (gb G), rf G 0, rf G 38, iv i] [] := by
  have r1 := x32 (gx G (i + 1))
  refine r_aloadk_n dL_law_701 rfl ?_
  refine r_aload_n dL_law_702 rfl ?_
  refine r_iload_n dL_law_703 rfl ?_
  refine r_iconst dL_law_704 ?_
  refine r_iadd dL_law_705 ?_
  refine r_sld (c := i + 1) dL_law_706 (by omega) (show i + 1 < gL G by omega) ?_
  refine q_callVr dL_law_707 (c_upheld hs J.1 (gx G (i + 1)).toInt r1) ml_L_79 okX8_upheld rfl rfl (hs.lt rfl) rfl rfl (Nat.le_of_ble_eq_true rfl) (rm_ok _ (by decide)) ⟨hc0, hs0⟩ ?_
  refine r_aloadk_n dL_law_710 rfl ?_
  refine r_aload_n dL_law_711 rfl ?_
  refine r_iload_n dL_law_712 rfl ?_
  refine r_iconst dL_law_713 ?_
  refine r_iadd dL_law_714 ?_
  refine r_sld (c := i + 1) dL_law_715 (by omega) (show i + 1 < gL G by omega) ?_
  refine q_callVi dL_law_716 (m_upheld hs J.2.1 (gx G (i + 1)).toInt r1) ml_L_82 okX9_upheld rfl rfl (hs.lt rfl) rfl rfl (Nat.le_of_ble_eq_true rfl) (rm_ok _ (by decide)) ⟨hc0, hs0⟩ (fun σ2 z2 hq2 => ?_)
  have q2 : mQ_upheld σ W H P C O (gx G (i + 1)).toInt σ2 z2 := hq2
  have st := st_upheld J (gx G (i + 1)).toInt z2 q2
  refine r_same (tgt := 1097) dL_law_719 (by omega) st.1 ?_
  exact kk σ2 ⟨W, H, P, C, O, st.2.2⟩ st.2.1
set_option maxHeartbeats 4000000 in
theorem law_holder (hs : Std n ρ) (J : JJ σ W H P C O B) (hi : i + 6 ≤ gL G) (hB : 0 ≤ B ∧ B ≤ 890000) (hc0 : c0 ≤ 600000) (hs0 : s0 ≤ 7302250) (kk : KK nm l G i c0 s0 n ρ σ B) : RW (KL nm l G) (c0, s0, n, ρ) σ 724 [.ref (gb G), rf G 0, rf G 38, iv i] [] := by
  have r1 := x32 (gx G (i + 1))
  have r2 := x32 (gx G (i + 2))
  refine r_aloadk_n dL_law_724 rfl ?_
  refine r_aload_n dL_law_725 rfl ?_
  refine r_iload_n dL_law_726 rfl ?_
  refine r_iconst dL_law_727 ?_
  refine r_iadd dL_law_728 ?_
  refine r_sld (c := i + 1) dL_law_729 (by omega) (show i + 1 < gL G by omega) ?_
  refine r_aload_n dL_law_730 rfl ?_
  refine r_iload_n dL_law_731 rfl ?_
  refine r_iconst dL_law_732 ?_
  refine r_iadd dL_law_733 ?_
  refine r_sld (c := i + 2) dL_law_734 (by omega) (show i + 2 < gL G by omega) ?_
  refine q_callVr dL_law_735 (c_holder hs J.1 (gx G (i + 1)).toInt (gx G (i + 2)).toInt r1 r2) ml_L_83 okX8_holder rfl rfl (hs.lt rfl) rfl rfl (Nat.le_of_ble_eq_true rfl) (rm_ok _ (by decide)) ⟨hc0, hs0⟩ ?_
  refine r_aloadk_n dL_law_738 rfl ?_
  refine r_aload_n dL_law_739 rfl ?_
  refine r_iload_n dL_law_740 rfl ?_
  refine r_iconst dL_law_741 ?_
  refine r_iadd dL_law_742 ?_
  refine r_sld (c := i + 1) dL_law_743 (by omega) (show i + 1 < gL G by omega) ?_
  refine r_aload_n dL_law_744 rfl ?_
  refine r_iload_n dL_law_745 rfl ?_
  refine r_iconst dL_law_746 ?_
  refine r_iadd dL_law_747 ?_
  refine r_sld (c := i + 2) dL_law_748 (by omega) (show i + 2 < gL G by omega) ?_
  refine q_callVi dL_law_749 (m_holder hs J.2.1 (gx G (i + 1)).toInt (gx G (i + 2)).toInt r1 r2) ml_L_86 okX9_holder rfl rfl (hs.lt rfl) rfl rfl (Nat.le_of_ble_eq_true rfl) (rm_ok _ (by decide)) ⟨hc0, hs0⟩ (fun σ2 z2 hq2 => ?_)
  have q2 : mQ_holder σ W H P C O (gx G (i + 1)).toInt (gx G (i + 2)).toInt σ2 z2 := hq2
  have st := st_holder J (gx G (i + 1)).toInt (gx G (i + 2)).toInt z2 q2
  refine r_same (tgt := 1097) dL_law_752 (by omega) st.1 ?_
  exact kk σ2 ⟨W, H, P, C, O, st.2.2⟩ st.2.1
set_option maxHeartbeats 4000000 in
theorem law_sum (hs : Std n ρ) (J : JJ σ W H P C O B) (hi : i + 6 ≤ gL G) (hB : 0 ≤ B ∧ B ≤ 890000) (hc0 : c0 ≤ 600000) (hs0 : s0 ≤ 7302250) (kk : KK nm l G i c0 s0 n ρ σ B) : RW (KL nm l G) (c0, s0, n, ρ) σ 757 [.ref (gb G), rf G 0, rf G 38, iv i] [] := by
  have r1 := x32 (gx G (i + 1))
  have r2 := x32 (gx G (i + 2))
  refine r_aloadk_n dL_law_757 rfl ?_
  refine r_aload_n dL_law_758 rfl ?_
  refine r_iload_n dL_law_759 rfl ?_
  refine r_iconst dL_law_760 ?_
  refine r_iadd dL_law_761 ?_
  refine r_sld (c := i + 1) dL_law_762 (by omega) (show i + 1 < gL G by omega) ?_
  refine r_aload_n dL_law_763 rfl ?_
  refine r_iload_n dL_law_764 rfl ?_
  refine r_iconst dL_law_765 ?_
  refine r_iadd dL_law_766 ?_
  refine r_sld (c := i + 2) dL_law_767 (by omega) (show i + 2 < gL G by omega) ?_
  refine q_callVi dL_law_768 (c_sum hs J.1 (gx G (i + 1)).toInt (gx G (i + 2)).toInt r1 r2) ml_L_87 okX8_sum rfl rfl (hs.lt rfl) rfl rfl (Nat.le_of_ble_eq_true rfl) (rm_ok _ (by decide)) ⟨hc0, hs0⟩ (fun σ1 z1 hq1 => ?_)
  have q1 : cQ_sum σ W H P C O (gx G (i + 1)).toInt (gx G (i + 2)).toInt σ1 z1 := hq1
  have cf := cf_sum J.1 q1
  refine r_aloadk_n dL_law_771 rfl ?_
  refine r_aload_n dL_law_772 rfl ?_
  refine r_iload_n dL_law_773 rfl ?_
  refine r_iconst dL_law_774 ?_
  refine r_iadd dL_law_775 ?_
  refine r_sld (c := i + 1) dL_law_776 (by omega) (show i + 1 < gL G by omega) ?_
  refine r_aload_n dL_law_777 rfl ?_
  refine r_iload_n dL_law_778 rfl ?_
  refine r_iconst dL_law_779 ?_
  refine r_iadd dL_law_780 ?_
  refine r_sld (c := i + 2) dL_law_781 (by omega) (show i + 2 < gL G by omega) ?_
  refine q_callVi dL_law_782 (m_sum hs (J.cf cf) (gx G (i + 1)).toInt (gx G (i + 2)).toInt r1 r2) ml_L_90 okX9_sum rfl rfl (hs.lt rfl) rfl rfl (Nat.le_of_ble_eq_true rfl) (rm_ok _ (by decide)) ⟨hc0, hs0⟩ (fun σ2 z2 hq2 => ?_)
  have q2 : mQ_sum σ1 W H P C O (gx G (i + 1)).toInt (gx G (i + 2)).toInt σ2 z2 := hq2
  have st := st_sum J  q1 q2
  refine r_same (tgt := 1097) dL_law_785 (by omega) st.1 ?_
  exact kk σ2 ⟨W, H, P, C, O, st.2.2⟩ (fun k hk => (st.2.1 k hk).trans (cf.1 k (by omega)))
set_option maxHeartbeats 4000000 in
theorem law_has (hs : Std n ρ) (J : JJ σ W H P C O B) (hi : i + 6 ≤ gL G) (hB : 0 ≤ B ∧ B ≤ 890000) (hc0 : c0 ≤ 600000) (hs0 : s0 ≤ 7302250) (kk : KK nm l G i c0 s0 n ρ σ B) : RW (KL nm l G) (c0, s0, n, ρ) σ 790 [.ref (gb G), rf G 0, rf G 38, iv i] [] := by
  have r1 := x32 (gx G (i + 1))
  have r2 := x32 (gx G (i + 2))
  have r3 := x32 (gx G (i + 3))
  refine r_aloadk_n dL_law_790 rfl ?_
  refine r_aload_n dL_law_791 rfl ?_
  refine r_iload_n dL_law_792 rfl ?_
  refine r_iconst dL_law_793 ?_
  refine r_iadd dL_law_794 ?_
  refine r_sld (c := i + 1) dL_law_795 (by omega) (show i + 1 < gL G by omega) ?_
  refine r_aload_n dL_law_796 rfl ?_
  refine r_iload_n dL_law_797 rfl ?_
  refine r_iconst dL_law_798 ?_
  refine r_iadd dL_law_799 ?_
  refine r_sld (c := i + 2) dL_law_800 (by omega) (show i + 2 < gL G by omega) ?_
  refine r_aload_n dL_law_801 rfl ?_
  refine r_iload_n dL_law_802 rfl ?_
  refine r_iconst dL_law_803 ?_
  refine r_iadd dL_law_804 ?_
  refine r_sld (c := i + 3) dL_law_805 (by omega) (show i + 3 < gL G by omega) ?_
  refine q_callVi dL_law_806 (c_has hs J.1 (gx G (i + 1)).toInt (gx G (i + 2)).toInt (gx G (i + 3)).toInt r1 r2 r3) ml_L_91 okX8_has rfl rfl (hs.lt rfl) rfl rfl (Nat.le_of_ble_eq_true rfl) (rm_ok _ (by decide)) ⟨hc0, hs0⟩ (fun σ1 z1 hq1 => ?_)
  have q1 : cQ_has σ W H P C O (gx G (i + 1)).toInt (gx G (i + 2)).toInt (gx G (i + 3)).toInt σ1 z1 := hq1
  have cf := cf_has J.1 q1
  refine r_aloadk_n dL_law_809 rfl ?_
  refine r_aload_n dL_law_810 rfl ?_
  refine r_iload_n dL_law_811 rfl ?_
  refine r_iconst dL_law_812 ?_
  refine r_iadd dL_law_813 ?_
  refine r_sld (c := i + 1) dL_law_814 (by omega) (show i + 1 < gL G by omega) ?_
  refine r_aload_n dL_law_815 rfl ?_
  refine r_iload_n dL_law_816 rfl ?_
  refine r_iconst dL_law_817 ?_
  refine r_iadd dL_law_818 ?_
  refine r_sld (c := i + 2) dL_law_819 (by omega) (show i + 2 < gL G by omega) ?_
  refine r_aload_n dL_law_820 rfl ?_
  refine r_iload_n dL_law_821 rfl ?_
  refine r_iconst dL_law_822 ?_
  refine r_iadd dL_law_823 ?_
  refine r_sld (c := i + 3) dL_law_824 (by omega) (show i + 3 < gL G by omega) ?_
  refine q_callVi dL_law_825 (m_has hs (J.cf cf) (gx G (i + 1)).toInt (gx G (i + 2)).toInt (gx G (i + 3)).toInt r1 r2 r3) ml_L_94 okX9_has rfl rfl (hs.lt rfl) rfl rfl (Nat.le_of_ble_eq_true rfl) (rm_ok _ (by decide)) ⟨hc0, hs0⟩ (fun σ2 z2 hq2 => ?_)
  have q2 : mQ_has σ1 W H P C O (gx G (i + 1)).toInt (gx G (i + 2)).toInt (gx G (i + 3)).toInt σ2 z2 := hq2
  have st := st_has J  q1 q2
  refine r_same (tgt := 1097) dL_law_828 (by omega) st.1 ?_
  exact kk σ2 ⟨W, H, P, C, O, st.2.2⟩ (fun k hk => (st.2.1 k hk).trans (cf.1 k (by omega)))
set_option maxHeartbeats 4000000 in
theorem law_allot (hs : Std n ρ) (J : JJ σ W H P C O B) (hi : i + 6 ≤ gL G) (hB : 0 ≤ B ∧ B ≤ 890000) (hc0 : c0 ≤ 600000) (hs0 : s0 ≤ 7302250) (kk : KK nm l G i c0 s0 n ρ σ B) : RW (KL nm l G) (c0, s0, n, ρ) σ 833 [.ref (gb G), rf G 0, rf G 38, iv i] [] := by
  have r1 := x32 (gx G (i + 1))
  have r2 := x32 (gx G (i + 2))
  have r3 := x32 (gx G (i + 3))
  refine r_aloadk_n dL_law_833 rfl ?_
  refine r_aload_n dL_law_834 rfl ?_
  refine r_iload_n dL_law_835 rfl ?_
  refine r_iconst dL_law_836 ?_
  refine r_iadd dL_law_837 ?_
  refine r_sld (c := i + 1) dL_law_838 (by omega) (show i + 1 < gL G by omega) ?_
  refine r_aload_n dL_law_839 rfl ?_
  refine r_iload_n dL_law_840 rfl ?_
  refine r_iconst dL_law_841 ?_
  refine r_iadd dL_law_842 ?_
  refine r_sld (c := i + 2) dL_law_843 (by omega) (show i + 2 < gL G by omega) ?_
  refine r_aload_n dL_law_844 rfl ?_
  refine r_iload_n dL_law_845 rfl ?_
  refine r_iconst dL_law_846 ?_
  refine r_iadd dL_law_847 ?_
  refine r_sld (c := i + 3) dL_law_848 (by omega) (show i + 3 < gL G by omega) ?_
  refine q_callVi dL_law_849 (c_allot hs J.1 (gx G (i + 1)).toInt (gx G (i + 2)).toInt (gx G (i + 3)).toInt r1 r2 r3) ml_L_95 okX8_allot rfl rfl (hs.lt rfl) rfl rfl (Nat.le_of_ble_eq_true rfl) (rm_ok _ (by decide)) ⟨hc0, hs0⟩ (fun σ1 z1 hq1 => ?_)
  have q1 : cQ_allot σ W H P C O (gx G (i + 1)).toInt (gx G (i + 2)).toInt (gx G (i + 3)).toInt σ1 z1 := hq1
  have cf := cf_allot J.1 q1
  refine r_aloadk_n dL_law_852 rfl ?_
  refine r_aload_n dL_law_853 rfl ?_
  refine r_iload_n dL_law_854 rfl ?_
  refine r_iconst dL_law_855 ?_
  refine r_iadd dL_law_856 ?_
  refine r_sld (c := i + 1) dL_law_857 (by omega) (show i + 1 < gL G by omega) ?_
  refine r_aload_n dL_law_858 rfl ?_
  refine r_iload_n dL_law_859 rfl ?_
  refine r_iconst dL_law_860 ?_
  refine r_iadd dL_law_861 ?_
  refine r_sld (c := i + 2) dL_law_862 (by omega) (show i + 2 < gL G by omega) ?_
  refine r_aload_n dL_law_863 rfl ?_
  refine r_iload_n dL_law_864 rfl ?_
  refine r_iconst dL_law_865 ?_
  refine r_iadd dL_law_866 ?_
  refine r_sld (c := i + 3) dL_law_867 (by omega) (show i + 3 < gL G by omega) ?_
  refine q_callVi dL_law_868 (m_allot hs (J.cf cf) (gx G (i + 1)).toInt (gx G (i + 2)).toInt (gx G (i + 3)).toInt r1 r2 r3) ml_L_98 okX9_allot rfl rfl (hs.lt rfl) rfl rfl (Nat.le_of_ble_eq_true rfl) (rm_ok _ (by decide)) ⟨hc0, hs0⟩ (fun σ2 z2 hq2 => ?_)
  have q2 : mQ_allot σ1 W H P C O (gx G (i + 1)).toInt (gx G (i + 2)).toInt (gx G (i + 3)).toInt σ2 z2 := hq2
  have st := st_allot J r2 q1 q2
  refine r_same (tgt := 1097) dL_law_871 (by omega) st.1 ?_
  exact kk σ2 st.2.2 (fun k hk => (st.2.1 k hk).trans (cf.1 k (by omega)))
set_option maxHeartbeats 4000000 in
theorem law_take (hs : Std n ρ) (J : JJ σ W H P C O B) (hi : i + 6 ≤ gL G) (hB : 0 ≤ B ∧ B ≤ 890000) (hc0 : c0 ≤ 600000) (hs0 : s0 ≤ 7302250) (kk : KK nm l G i c0 s0 n ρ σ B) : RW (KL nm l G) (c0, s0, n, ρ) σ 876 [.ref (gb G), rf G 0, rf G 38, iv i] [] := by
  have r1 := x32 (gx G (i + 1))
  refine r_aloadk_n dL_law_876 rfl ?_
  refine r_aload_n dL_law_877 rfl ?_
  refine r_iload_n dL_law_878 rfl ?_
  refine r_iconst dL_law_879 ?_
  refine r_iadd dL_law_880 ?_
  refine r_sld (c := i + 1) dL_law_881 (by omega) (show i + 1 < gL G by omega) ?_
  refine q_callVi dL_law_882 (c_take hs J.1 (gx G (i + 1)).toInt r1) ml_L_99 okX8_take rfl rfl (hs.lt rfl) rfl rfl (Nat.le_of_ble_eq_true rfl) (rm_ok _ (by decide)) ⟨hc0, hs0⟩ (fun σ1 z1 hq1 => ?_)
  have q1 : cQ_take σ W H P C O (gx G (i + 1)).toInt σ1 z1 := hq1
  have cf := cf_take J.1 q1
  refine r_aloadk_n dL_law_885 rfl ?_
  refine r_aload_n dL_law_886 rfl ?_
  refine r_iload_n dL_law_887 rfl ?_
  refine r_iconst dL_law_888 ?_
  refine r_iadd dL_law_889 ?_
  refine r_sld (c := i + 1) dL_law_890 (by omega) (show i + 1 < gL G by omega) ?_
  refine q_callVi dL_law_891 (m_take hs (J.cf cf) (gx G (i + 1)).toInt r1) ml_L_102 okX9_take rfl rfl (hs.lt rfl) rfl rfl (Nat.le_of_ble_eq_true rfl) (rm_ok _ (by decide)) ⟨hc0, hs0⟩ (fun σ2 z2 hq2 => ?_)
  have q2 : mQ_take σ1 W H P C O (gx G (i + 1)).toInt σ2 z2 := hq2
  have st := st_take J  q1 q2
  refine r_same (tgt := 1097) dL_law_894 (by omega) st.1 ?_
  exact kk σ2 st.2.2 (fun k hk => (st.2.1 k hk).trans (cf.1 k (by omega)))
set_option maxHeartbeats 4000000 in
theorem law_good (hs : Std n ρ) (J : JJ σ W H P C O B) (hi : i + 6 ≤ gL G) (hB : 0 ≤ B ∧ B ≤ 890000) (hc0 : c0 ≤ 600000) (hs0 : s0 ≤ 7302250) (kk : KK nm l G i c0 s0 n ρ σ B) : RW (KL nm l G) (c0, s0, n, ρ) σ 899 [.ref (gb G), rf G 0, rf G 38, iv i] [] := by
  have r1 := x32 (gx G (i + 1))
  have r2 := x32 (gx G (i + 2))
  refine r_aloadk_n dL_law_899 rfl ?_
  refine r_aload_n dL_law_900 rfl ?_
  refine r_iload_n dL_law_901 rfl ?_
  refine r_iconst dL_law_902 ?_
  refine r_iadd dL_law_903 ?_
  refine r_sld (c := i + 1) dL_law_904 (by omega) (show i + 1 < gL G by omega) ?_
  refine r_aload_n dL_law_905 rfl ?_
  refine r_iload_n dL_law_906 rfl ?_
  refine r_iconst dL_law_907 ?_
  refine r_iadd dL_law_908 ?_
  refine r_sld (c := i + 2) dL_law_909 (by omega) (show i + 2 < gL G by omega) ?_
  refine q_callVi dL_law_910 (c_good hs J.1 (gx G (i + 1)).toInt (gx G (i + 2)).toInt r1 r2) ml_L_103 okX8_good rfl rfl (hs.lt rfl) rfl rfl (Nat.le_of_ble_eq_true rfl) (rm_ok _ (by decide)) ⟨hc0, hs0⟩ (fun σ1 z1 hq1 => ?_)
  have q1 : cQ_good σ W H P C O (gx G (i + 1)).toInt (gx G (i + 2)).toInt σ1 z1 := hq1
  have cf := cf_good J.1 q1
  refine r_aloadk_n dL_law_913 rfl ?_
  refine r_aload_n dL_law_914 rfl ?_
  refine r_iload_n dL_law_915 rfl ?_
  refine r_iconst dL_law_916 ?_
  refine r_iadd dL_law_917 ?_
  refine r_sld (c := i + 1) dL_law_918 (by omega) (show i + 1 < gL G by omega) ?_
  refine r_aload_n dL_law_919 rfl ?_
  refine r_iload_n dL_law_920 rfl ?_
  refine r_iconst dL_law_921 ?_
  refine r_iadd dL_law_922 ?_
  refine r_sld (c := i + 2) dL_law_923 (by omega) (show i + 2 < gL G by omega) ?_
  refine q_callVi dL_law_924 (m_good hs (J.cf cf) (gx G (i + 1)).toInt (gx G (i + 2)).toInt r1 r2) ml_L_106 okX9_good rfl rfl (hs.lt rfl) rfl rfl (Nat.le_of_ble_eq_true rfl) (rm_ok _ (by decide)) ⟨hc0, hs0⟩ (fun σ2 z2 hq2 => ?_)
  have q2 : mQ_good σ1 W H P C O (gx G (i + 1)).toInt (gx G (i + 2)).toInt σ2 z2 := hq2
  have st := st_good J  q1 q2
  refine r_same (tgt := 1097) dL_law_927 (by omega) st.1 ?_
  exact kk σ2 ⟨W, H, P, C, O, st.2.2⟩ (fun k hk => (st.2.1 k hk).trans (cf.1 k (by omega)))
set_option maxHeartbeats 4000000 in
theorem law_plot (hs : Std n ρ) (J : JJ σ W H P C O B) (hi : i + 6 ≤ gL G) (hB : 0 ≤ B ∧ B ≤ 890000) (hc0 : c0 ≤ 600000) (hs0 : s0 ≤ 7302250) (kk : KK nm l G i c0 s0 n ρ σ B) : RW (KL nm l G) (c0, s0, n, ρ) σ 932 [.ref (gb G), rf G 0, rf G 38, iv i] [] := by
  have r1 := x32 (gx G (i + 1))
  have r2 := x32 (gx G (i + 2))
  refine r_aloadk_n dL_law_932 rfl ?_
  refine r_aload_n dL_law_933 rfl ?_
  refine r_iload_n dL_law_934 rfl ?_
  refine r_iconst dL_law_935 ?_
  refine r_iadd dL_law_936 ?_
  refine r_sld (c := i + 1) dL_law_937 (by omega) (show i + 1 < gL G by omega) ?_
  refine r_aload_n dL_law_938 rfl ?_
  refine r_iload_n dL_law_939 rfl ?_
  refine r_iconst dL_law_940 ?_
  refine r_iadd dL_law_941 ?_
  refine r_sld (c := i + 2) dL_law_942 (by omega) (show i + 2 < gL G by omega) ?_
  refine q_callVr dL_law_943 (c_plot hs J.1 (gx G (i + 1)).toInt (gx G (i + 2)).toInt r1 r2) ml_L_107 okX8_plot rfl rfl (hs.lt rfl) rfl rfl (Nat.le_of_ble_eq_true rfl) (rm_ok _ (by decide)) ⟨hc0, hs0⟩ ?_
  refine r_aloadk_n dL_law_946 rfl ?_
  refine r_aload_n dL_law_947 rfl ?_
  refine r_iload_n dL_law_948 rfl ?_
  refine r_iconst dL_law_949 ?_
  refine r_iadd dL_law_950 ?_
  refine r_sld (c := i + 1) dL_law_951 (by omega) (show i + 1 < gL G by omega) ?_
  refine r_aload_n dL_law_952 rfl ?_
  refine r_iload_n dL_law_953 rfl ?_
  refine r_iconst dL_law_954 ?_
  refine r_iadd dL_law_955 ?_
  refine r_sld (c := i + 2) dL_law_956 (by omega) (show i + 2 < gL G by omega) ?_
  refine q_callVr dL_law_957 (m_plot hs J.2.1 (gx G (i + 1)).toInt (gx G (i + 2)).toInt r1 r2) ml_L_110 okX9_plot rfl rfl (hs.lt rfl) rfl rfl (Nat.le_of_ble_eq_true rfl) (rm_ok _ (by decide)) ⟨hc0, hs0⟩ ?_
  refine r_same (tgt := 1097) dL_law_960 (by omega) (eq_plot J (gx G (i + 1)).toInt (gx G (i + 2)).toInt) ?_
  exact kk σ ⟨W, H, P, C, O, J.more⟩ (fun _ _ => rfl)
def KKD (nm : String) (l : Launch) (G : GG) (i c1 s1 : Nat) (B : Int) : Prop := ∀ σ2 : Si, (∃ W H P C O : Nat, JJ σ2 W H P C O (B + 800)) → RW (KL nm l G) (c1, s1, 92, rho3) σ2 1097 [.ref (gb G), rf G 0, rf G 38, iv i] []
set_option maxHeartbeats 4000000 in
theorem law_draw1000 {d : Nat} (hs : Std n ρ) {σ1 : Si} {z1 : Int} (J : JJ σ W H P C O B) (hi : i + 6 ≤ gL G) (hc0 : c0 ≤ 600000) (hs0 : s0 ≤ 7302250) (q1 : cQ_draw σ W H P C O (gx G (i + 1)).toInt (gx G (i + 2)).toInt (gx G (i + 3)).toInt σ1 z1) (kk : ∀ σ2 : Si, (∃ W H P C O : Nat, JJ σ2 W H P C O (B + 800)) → (∀ k, 73 ≤ k → σ2 k = σ1 k) → RW (KL nm l G) (c0, s0, n, ρ) σ2 1097 [.ref (gb G), rf G 0, rf G 38, iv i] []) : RW (KL nm l G) (c0, s0, n, ρ) σ1 (981 + 3) [.ref (gb G), rf G 0, rf G 38, iv i] [iv z1] := by
  have r1 := x32 (gx G (i + 1))
  have r2 := x32 (gx G (i + 2))
  have r3 := x32 (gx G (i + 3))
  have hcf := cf_draw J q1
  have hJ1 := J.2.1.cf hcf.1 hcf.2
  refine r_aloadk_n dL_law_984 rfl ?_
  refine r_aload_n dL_law_985 rfl ?_
  refine r_iload_n dL_law_986 rfl ?_
  refine r_iconst dL_law_987 ?_
  refine r_iadd dL_law_988 ?_
  refine r_sld (c := i + 1) dL_law_989 (by omega) (show i + 1 < gL G by omega) ?_
  refine r_aload_n dL_law_990 rfl ?_
  refine r_iload_n dL_law_991 rfl ?_
  refine r_iconst dL_law_992 ?_
  refine r_iadd dL_law_993 ?_
  refine r_sld (c := i + 2) dL_law_994 (by omega) (show i + 2 < gL G by omega) ?_
  refine r_aload_n dL_law_995 rfl ?_
  refine r_iload_n dL_law_996 rfl ?_
  refine r_iconst dL_law_997 ?_
  refine r_iadd dL_law_998 ?_
  refine r_sld (c := i + 3) dL_law_999 (by omega) (show i + 3 < gL G by omega) ?_
  refine q_callVi dL_law_1000 (m_draw hs hJ1 (gx G (i + 1)).toInt (gx G (i + 2)).toInt (gx G (i + 3)).toInt r1 r2 r3 _ rfl) ml_L_114 okX9_draw rfl rfl (hs.lt rfl) rfl rfl (Nat.le_of_ble_eq_true rfl) (rm_ok _ (by decide)) ⟨hc0, hs0⟩ (fun σ2 z2 hq2 => ?_)
  have q2 : mQ_draw σ1 W H P C O (gx G (i + 1)).toInt (gx G (i + 2)).toInt (gx G (i + 3)).toInt σ2 z2 := by
    rcases hq2 with a | ⟨a, b, c⟩
    · exact Or.inl a
    · exact Or.inr ⟨a, b, _, rfl, c⟩
  have st := st_draw J q1 q2
  refine r_same (tgt := 1097) dL_law_1003 (by omega) st.1 ?_
  exact kk σ2 st.2.2 st.2.1
set_option maxHeartbeats 4000000 in
theorem law_drawD (hs : Std n ρ) (hsD : StdD n ρ) (J : JJ σ W H P C O B) (hi : i + 6 ≤ gL G) (hc0 : c0 ≤ 600000) (hs0 : s0 ≤ 7302250) (kk : ∀ σ2 : Si, (∃ W H P C O : Nat, JJ σ2 W H P C O (B + 800)) → RW (KL nm l G) (c0, s0, n, ρ) σ2 1097 [.ref (gb G), rf G 0, rf G 38, iv i] []) : RW (KL nm l G) (c0, s0, n, ρ) σ 965 [.ref (gb G), rf G 0, rf G 38, iv i] [] := by
  have r1 := x32 (gx G (i + 1))
  have r2 := x32 (gx G (i + 2))
  have r3 := x32 (gx G (i + 3))
  refine r_aloadk_n dL_law_965 rfl ?_
  refine r_aload_n dL_law_966 rfl ?_
  refine r_iload_n dL_law_967 rfl ?_
  refine r_iconst dL_law_968 ?_
  refine r_iadd dL_law_969 ?_
  refine r_sld (c := i + 1) dL_law_970 (by omega) (show i + 1 < gL G by omega) ?_
  refine r_aload_n dL_law_971 rfl ?_
  refine r_iload_n dL_law_972 rfl ?_
  refine r_iconst dL_law_973 ?_
  refine r_iadd dL_law_974 ?_
  refine r_sld (c := i + 2) dL_law_975 (by omega) (show i + 2 < gL G by omega) ?_
  refine r_aload_n dL_law_976 rfl ?_
  refine r_iload_n dL_law_977 rfl ?_
  refine r_iconst dL_law_978 ?_
  refine r_iadd dL_law_979 ?_
  refine r_sld (c := i + 3) dL_law_980 (by omega) (show i + 3 < gL G by omega) ?_
  refine q_callVi dL_law_981 (c_drawD hs hsD J.1 (gx G (i + 1)).toInt (gx G (i + 2)).toInt (gx G (i + 3)).toInt r1 r2 r3 _ rfl _ rfl _ rfl) ml_L_111 okX8_draw rfl rfl (hs.lt rfl) rfl rfl (Nat.le_of_ble_eq_true rfl) (rm_ok _ (by decide)) ⟨hc0, hs0⟩ (fun σ1 z1 hq1 => ?_)
  have q1 : cQ_draw σ W H P C O (gx G (i + 1)).toInt (gx G (i + 2)).toInt (gx G (i + 3)).toInt σ1 z1 := by
    rcases hq1 with a | ⟨a, b, c⟩
    · exact Or.inl a
    · exact Or.inr ⟨a, b, _, _, _, rfl, rfl, rfl, c⟩
  exact law_draw1000 (d := 0) hs J hi hc0 hs0 q1 (fun σ2 a _ => kk σ2 a)
set_option maxHeartbeats 4000000 in
theorem c_drawB (hs : Std n ρ) (x1 x2 x3 : Int) (h1 : R32 x1) (h2 : R32 x2) (h3 : R32 x3) (hbad : ¬ ((0 ≤ x1 ∧ x1 ≤ 999) ∧ (1 ≤ x2 ∧ x2 ≤ 20000) ∧ (0 ≤ x3 ∧ x3 ≤ 1))) : RdI l G 11 mX8_draw n ρ σ [rf G 0, iv x1, iv x2, iv x3] (-3) := by
  refine Ct.of (L0 := [rf G 0, iv x1, iv x2, iv x3]) (by decide +kernel) (Nat.le_of_ble_eq_true rfl) rfl ?_
  refine r_iload_n dX8_draw_0 rfl ?_
  refine q_callSr dX8_draw_1 (c_isDay x1 h1) ml_X8_153 okX8_isDay rfl rfl (Nat.le_of_ble_eq_true rfl) (roomOK.of (by decide)) ⟨(Nat.le_of_ble_eq_true rfl), (Nat.le_of_ble_eq_true rfl)⟩ ?_
  refine r_ifeqb (tgt := 27) dX8_draw_4 rfl (fun h4 => ?_) (fun h4 => ?_)
  · refine r_bipush dX8_draw_27 ?_
    exact r_ireti dX8_draw_29 rfl ⟨_, rfl, rfl, rfl⟩
  · refine r_iload_n dX8_draw_7 rfl ?_
    refine r_iconst dX8_draw_8 ?_
    refine r_sipush dX8_draw_9 ?_
    refine q_callSr dX8_draw_12 (c_isWithin x2 1 20000 h2 (by omega) (by omega)) ml_X8_65 okX8_isWithin rfl rfl (Nat.le_of_ble_eq_true rfl) (roomOK.of (by decide)) ⟨(Nat.le_of_ble_eq_true rfl), (Nat.le_of_ble_eq_true rfl)⟩ ?_
    refine r_ifeqb (tgt := 27) dX8_draw_15 rfl (fun h15 => ?_) (fun h15 => ?_)
    · refine r_bipush dX8_draw_27 ?_
      exact r_ireti dX8_draw_29 rfl ⟨_, rfl, rfl, rfl⟩
    · refine r_iload_n dX8_draw_18 rfl ?_
      refine r_iconst dX8_draw_19 ?_
      refine r_iconst dX8_draw_20 ?_
      refine q_callSr dX8_draw_21 (c_isWithin x3 0 1 h3 (by omega) (by omega)) ml_X8_65 okX8_isWithin rfl rfl (Nat.le_of_ble_eq_true rfl) (roomOK.of (by decide)) ⟨(Nat.le_of_ble_eq_true rfl), (Nat.le_of_ble_eq_true rfl)⟩ ?_
      refine r_ifneb (tgt := 30) dX8_draw_24 rfl (fun h24 => ?_) (fun h24 => ?_)
      · omega
      · refine r_bipush dX8_draw_27 ?_
        exact r_ireti dX8_draw_29 rfl ⟨_, rfl, rfl, rfl⟩
set_option maxHeartbeats 4000000 in
theorem law_drawN (hz : ∀ k, 73 ≤ k → ∀ j, σ k j = 0) (J : JJ σ W H P C O B) (hi : i + 6 ≤ gL G) (kk : KK nm l G i 73 14182 73 rho2 σ B) (kkD : KKD nm l G i 92 38009 B) : RW (KL nm l G) (73, 14182, 73, rho2) σ 965 [.ref (gb G), rf G 0, rf G 38, iv i] [] := by
  have hs := std2
  have r1 := x32 (gx G (i + 1))
  have r2 := x32 (gx G (i + 2))
  have r3 := x32 (gx G (i + 3))
  by_cases hok : (0 ≤ (gx G (i + 1)).toInt ∧ (gx G (i + 1)).toInt ≤ 999) ∧ (1 ≤ (gx G (i + 2)).toInt ∧ (gx G (i + 2)).toInt ≤ 20000) ∧ (0 ≤ (gx G (i + 3)).toInt ∧ (gx G (i + 3)).toInt ≤ 1)
  · have hu : True := trivial
    refine r_aloadk_n dL_law_965 rfl ?_
    refine r_aload_n dL_law_966 rfl ?_
    refine r_iload_n dL_law_967 rfl ?_
    refine r_iconst dL_law_968 ?_
    refine r_iadd dL_law_969 ?_
    refine r_sld (c := i + 1) dL_law_970 (by omega) (show i + 1 < gL G by omega) ?_
    refine r_aload_n dL_law_971 rfl ?_
    refine r_iload_n dL_law_972 rfl ?_
    refine r_iconst dL_law_973 ?_
    refine r_iadd dL_law_974 ?_
    refine r_sld (c := i + 2) dL_law_975 (by omega) (show i + 2 < gL G by omega) ?_
    refine r_aload_n dL_law_976 rfl ?_
    refine r_iload_n dL_law_977 rfl ?_
    refine r_iconst dL_law_978 ?_
    refine r_iadd dL_law_979 ?_
    refine r_sld (c := i + 3) dL_law_980 (by omega) (show i + 3 < gL G by omega) ?_
    refine r_callV dL_law_981 (c_drawN hz J.1 (gx G (i + 1)).toInt (gx G (i + 2)).toInt (gx G (i + 3)).toInt r1 r2 r3 hok _ rfl _ rfl _ rfl) ml_L_111 okX8_draw rfl rfl (Nat.le_of_ble_eq_true rfl) rfl rfl (Nat.le_of_ble_eq_true rfl) (rm_ok _ (by decide)) ⟨show 73 + 19 ≤ 600000 by decide, show 14182 + 23827 ≤ 7302250 by decide⟩ (fun σ1 v1 hq1 => ?_)
    obtain ⟨z1, rfl, cd, hr⟩ := hq1
    have q1 : cQ_draw σ W H P C O (gx G (i + 1)).toInt (gx G (i + 2)).toInt (gx G (i + 3)).toInt σ1 z1 := Or.inr ⟨hok, cd, _, _, _, rfl, rfl, rfl, hr⟩
    refine RWcast (φ' := (92, 38009, 92, rho3)) rfl ?_
    exact law_draw1000 (d := 0) std3 J hi (by decide) (by decide) q1 (fun σ2 a _ => kkD σ2 a)
  · have hu : True := trivial
    refine r_aloadk_n dL_law_965 rfl ?_
    refine r_aload_n dL_law_966 rfl ?_
    refine r_iload_n dL_law_967 rfl ?_
    refine r_iconst dL_law_968 ?_
    refine r_iadd dL_law_969 ?_
    refine r_sld (c := i + 1) dL_law_970 (by omega) (show i + 1 < gL G by omega) ?_
    refine r_aload_n dL_law_971 rfl ?_
    refine r_iload_n dL_law_972 rfl ?_
    refine r_iconst dL_law_973 ?_
    refine r_iadd dL_law_974 ?_
    refine r_sld (c := i + 2) dL_law_975 (by omega) (show i + 2 < gL G by omega) ?_
    refine r_aload_n dL_law_976 rfl ?_
    refine r_iload_n dL_law_977 rfl ?_
    refine r_iconst dL_law_978 ?_
    refine r_iadd dL_law_979 ?_
    refine r_sld (c := i + 3) dL_law_980 (by omega) (show i + 3 < gL G by omega) ?_
    refine q_callVr dL_law_981 (c_drawB hs (gx G (i + 1)).toInt (gx G (i + 2)).toInt (gx G (i + 3)).toInt r1 r2 r3 hok) ml_L_111 okX8_draw rfl rfl (hs.lt rfl) rfl rfl (Nat.le_of_ble_eq_true rfl) (rm_ok _ (by decide)) ⟨show 73 ≤ 600000 by decide, show 14182 ≤ 7302250 by decide⟩ ?_
    exact law_draw1000 (d := 0) hs J hi (by decide) (by decide) (Or.inl ⟨hok, rfl, rfl⟩) kk
set_option maxHeartbeats 4000000 in
theorem law_hedge (hs : Std n ρ) (J : JJ σ W H P C O B) (hi : i + 6 ≤ gL G) (hB : 0 ≤ B ∧ B ≤ 890000) (hc0 : c0 ≤ 600000) (hs0 : s0 ≤ 7302250) (kk : KK nm l G i c0 s0 n ρ σ B) : RW (KL nm l G) (c0, s0, n, ρ) σ 1008 [.ref (gb G), rf G 0, rf G 38, iv i] [] := by
  have r1 := x32 (gx G (i + 1))
  have r2 := x32 (gx G (i + 2))
  refine r_aloadk_n dL_law_1008 rfl ?_
  refine r_aload_n dL_law_1009 rfl ?_
  refine r_iload_n dL_law_1010 rfl ?_
  refine r_iconst dL_law_1011 ?_
  refine r_iadd dL_law_1012 ?_
  refine r_sld (c := i + 1) dL_law_1013 (by omega) (show i + 1 < gL G by omega) ?_
  refine r_aload_n dL_law_1014 rfl ?_
  refine r_iload_n dL_law_1015 rfl ?_
  refine r_iconst dL_law_1016 ?_
  refine r_iadd dL_law_1017 ?_
  refine r_sld (c := i + 2) dL_law_1018 (by omega) (show i + 2 < gL G by omega) ?_
  refine q_callVi dL_law_1019 (c_hedge hs J.1 (gx G (i + 1)).toInt (gx G (i + 2)).toInt r1 r2) ml_L_115 okX8_hedge rfl rfl (hs.lt rfl) rfl rfl (Nat.le_of_ble_eq_true rfl) (rm_ok _ (by decide)) ⟨hc0, hs0⟩ (fun σ1 z1 hq1 => ?_)
  have q1 : cQ_hedge σ W H P C O (gx G (i + 1)).toInt (gx G (i + 2)).toInt σ1 z1 := hq1
  have cf := cf_hedge J.1 r2 q1
  refine r_aloadk_n dL_law_1022 rfl ?_
  refine r_aload_n dL_law_1023 rfl ?_
  refine r_iload_n dL_law_1024 rfl ?_
  refine r_iconst dL_law_1025 ?_
  refine r_iadd dL_law_1026 ?_
  refine r_sld (c := i + 1) dL_law_1027 (by omega) (show i + 1 < gL G by omega) ?_
  refine r_aload_n dL_law_1028 rfl ?_
  refine r_iload_n dL_law_1029 rfl ?_
  refine r_iconst dL_law_1030 ?_
  refine r_iadd dL_law_1031 ?_
  refine r_sld (c := i + 2) dL_law_1032 (by omega) (show i + 2 < gL G by omega) ?_
  refine q_callVi dL_law_1033 (m_hedge hs (J.cf cf) (gx G (i + 1)).toInt (gx G (i + 2)).toInt r1 r2) ml_L_118 okX9_hedge rfl rfl (hs.lt rfl) rfl rfl (Nat.le_of_ble_eq_true rfl) (rm_ok _ (by decide)) ⟨hc0, hs0⟩ (fun σ2 z2 hq2 => ?_)
  have q2 : mQ_hedge σ1 W H P C O (gx G (i + 1)).toInt (gx G (i + 2)).toInt σ2 z2 := hq2
  have st := st_hedge J r2 q1 q2
  refine r_same (tgt := 1097) dL_law_1036 (by omega) st.1 ?_
  exact kk σ2 st.2.2 (fun k hk => (st.2.1 k hk).trans (cf.1 k (by omega)))
set_option maxHeartbeats 4000000 in
theorem law_fine (hs : Std n ρ) (J : JJ σ W H P C O B) (hi : i + 6 ≤ gL G) (hB : 0 ≤ B ∧ B ≤ 890000) (hc0 : c0 ≤ 600000) (hs0 : s0 ≤ 7302250) (kk : KK nm l G i c0 s0 n ρ σ B) : RW (KL nm l G) (c0, s0, n, ρ) σ 1041 [.ref (gb G), rf G 0, rf G 38, iv i] [] := by
  have r1 := x32 (gx G (i + 1))
  have r2 := x32 (gx G (i + 2))
  refine r_aloadk_n dL_law_1041 rfl ?_
  refine r_aload_n dL_law_1042 rfl ?_
  refine r_iload_n dL_law_1043 rfl ?_
  refine r_iconst dL_law_1044 ?_
  refine r_iadd dL_law_1045 ?_
  refine r_sld (c := i + 1) dL_law_1046 (by omega) (show i + 1 < gL G by omega) ?_
  refine r_aload_n dL_law_1047 rfl ?_
  refine r_iload_n dL_law_1048 rfl ?_
  refine r_iconst dL_law_1049 ?_
  refine r_iadd dL_law_1050 ?_
  refine r_sld (c := i + 2) dL_law_1051 (by omega) (show i + 2 < gL G by omega) ?_
  refine q_callVr dL_law_1052 (c_fine hs J.1 (gx G (i + 1)).toInt (gx G (i + 2)).toInt r1 r2) ml_L_119 okX8_fine rfl rfl (hs.lt rfl) rfl rfl (Nat.le_of_ble_eq_true rfl) (rm_ok _ (by decide)) ⟨hc0, hs0⟩ ?_
  refine r_aloadk_n dL_law_1055 rfl ?_
  refine r_aload_n dL_law_1056 rfl ?_
  refine r_iload_n dL_law_1057 rfl ?_
  refine r_iconst dL_law_1058 ?_
  refine r_iadd dL_law_1059 ?_
  refine r_sld (c := i + 1) dL_law_1060 (by omega) (show i + 1 < gL G by omega) ?_
  refine r_aload_n dL_law_1061 rfl ?_
  refine r_iload_n dL_law_1062 rfl ?_
  refine r_iconst dL_law_1063 ?_
  refine r_iadd dL_law_1064 ?_
  refine r_sld (c := i + 2) dL_law_1065 (by omega) (show i + 2 < gL G by omega) ?_
  refine q_callVr dL_law_1066 (m_fine hs J.2.1 (gx G (i + 1)).toInt (gx G (i + 2)).toInt r1 r2) ml_L_122 okX9_fine rfl rfl (hs.lt rfl) rfl rfl (Nat.le_of_ble_eq_true rfl) (rm_ok _ (by decide)) ⟨hc0, hs0⟩ ?_
  refine r_same (tgt := 1097) dL_law_1069 (by omega) (eq_fine J (gx G (i + 1)).toInt (gx G (i + 2)).toInt) ?_
  exact kk σ ⟨W, H, P, C, O, J.more⟩ (fun _ _ => rfl)
set_option maxHeartbeats 4000000 in
theorem law_count (hs : Std n ρ) (J : JJ σ W H P C O B) (hi : i + 6 ≤ gL G) (hB : 0 ≤ B ∧ B ≤ 890000) (hc0 : c0 ≤ 600000) (hs0 : s0 ≤ 7302250) (kk : KK nm l G i c0 s0 n ρ σ B) : RW (KL nm l G) (c0, s0, n, ρ) σ 1074 [.ref (gb G), rf G 0, rf G 38, iv i] [] := by
  have r1 := x32 (gx G (i + 1))
  refine r_aloadk_n dL_law_1074 rfl ?_
  refine r_aload_n dL_law_1075 rfl ?_
  refine r_iload_n dL_law_1076 rfl ?_
  refine r_iconst dL_law_1077 ?_
  refine r_iadd dL_law_1078 ?_
  refine r_sld (c := i + 1) dL_law_1079 (by omega) (show i + 1 < gL G by omega) ?_
  refine q_callVr dL_law_1080 (c_count hs J.1 (gx G (i + 1)).toInt r1) ml_L_123 okX8_count rfl rfl (hs.lt rfl) rfl rfl (Nat.le_of_ble_eq_true rfl) (rm_ok _ (by decide)) ⟨hc0, hs0⟩ ?_
  refine r_aloadk_n dL_law_1083 rfl ?_
  refine r_aload_n dL_law_1084 rfl ?_
  refine r_iload_n dL_law_1085 rfl ?_
  refine r_iconst dL_law_1086 ?_
  refine r_iadd dL_law_1087 ?_
  refine r_sld (c := i + 1) dL_law_1088 (by omega) (show i + 1 < gL G by omega) ?_
  refine q_callVr dL_law_1089 (m_count hs J.2.1 (gx G (i + 1)).toInt r1) ml_L_126 okX9_count rfl rfl (hs.lt rfl) rfl rfl (Nat.le_of_ble_eq_true rfl) (rm_ok _ (by decide)) ⟨hc0, hs0⟩ ?_
  refine r_same (tgt := 1097) dL_law_1092 (by omega) (eq_count J (gx G (i + 1)).toInt) ?_
  exact kk σ ⟨W, H, P, C, O, J.more⟩ (fun _ _ => rfl)
end Law
