/-! what is learnt at the start -/
def pm_SP (s : pm_H) : Prop := pm_CT s ∧ pm_SG s
theorem pm_SP_c {s t : pm_H} (W : pm_SP s) (e : ∀ r i : Int, t 2 r i = s 2 r i) (e1 : t 31 0 1 = s 31 0 1) (e2 : ∀ r i : Int, t 32 r i = s 32 r i) (e3 : ∀ r i : Int, t 33 r i = s 33 r i) : pm_SP t := ⟨pm_CT_c W.1 e, pm_SG_c W.2 e1 e2 e3⟩
theorem pm_oz {w : Nat} {l : List Int} {f : Int → Int} (hl : l = 1 :: pm_zl w) (F : ∀ i : Int, f i = if i = 0 then 1 else 0) : pm_LR (w + 1) l f := by
  subst hl
  refine ⟨by show (pm_zl w).length + 1 = w + 1; rw [pm_zl_l], fun j a b => ?_⟩
  rw [F j]
  by_cases z : j = 0
  · subst z
    rfl
  · rw [if_neg z, show j.toNat = (j.toNat - 1) + 1 by omega]
    exact (pm_zl_v w _).symm
theorem pm_zz {w : Nat} {f : Int → Int} (F : ∀ i : Int, f i = 0) : pm_LR w (pm_zl w) f := ⟨pm_zl_l w, fun j _ _ => (F j).trans (pm_zl_v w _).symm⟩
theorem pm_if0 {r i x : Int} (hr : r = 0) (h : x = if r = 0 ∧ i = 0 then 1 else 0) : x = if i = 0 then 1 else 0 := by
  by_cases z : i = 0
  · rw [if_pos ⟨hr, z⟩] at h
    rw [if_pos z]
    exact h
  · rw [if_neg (fun y => z y.2)] at h
    rw [if_neg z]
    exact h
theorem pm_if1 {r i x : Int} (hr : r ≠ 0) (h : x = if r = 0 ∧ i = 0 then 1 else 0) : x = 0 := by
  rw [if_neg (fun y => hr y.1)] at h
  exact h
theorem pm_SG_0 {s : pm_H} (W : pm_S0 s) : pm_SG s := fun r a b => by
  rw [W.1]
  refine ⟨fun h => ?_, fun h => ?_⟩
  · have hr : r = 0 := by omega
    have e : r.toNat = 0 := by omega
    rw [e]
    exact ⟨pm_oz (w := 45) rfl (fun i => pm_if0 hr (W.2.1 r i)), pm_oz (w := 10) rfl (fun i => pm_if0 hr (W.2.2 r i))⟩
  · exact ⟨pm_zz (fun i => pm_if1 (by omega) (W.2.1 r i)), pm_zz (fun i => pm_if1 (by omega) (W.2.2 r i))⟩
/-! ===== the law over the pure machine ===== -/
abbrev pm_EL (sl : Int) (sx : Int → Int) : pm_E := (RL, 8, 122, cL_law, sl, sx, false, some .boolean, fun r _ => r = some (.inl 1))
def pm_K1 (s : pm_H) : Prop := s 3 0 3 ≤ s 3 0 1 ∧ (s 3 0 0 = 2 → 0 ≤ s 3 0 2 ∧ s 3 0 2 ≤ 9)
theorem pm_K1_c {s t : pm_H} (h : pm_K1 s) (e0 : t 3 0 0 = s 3 0 0) (e1 : t 3 0 1 = s 3 0 1) (e2 : t 3 0 2 = s 3 0 2) (e3 : t 3 0 3 = s 3 0 3) : pm_K1 t := by
  unfold pm_K1
  rw [e0, e1, e2, e3]
  exact h
def pm_lwI (s : pm_H) : Prop := pm_Rng s ∧ pm_K1 s ∧ pm_J2 s ∧ pm_CH s ∧ pm_LE s ∧ pm_SP s
theorem nw_L_7 : pm_NWb RL 7 10 = true := by decide +kernel
theorem nw_L_10 : pm_NWb RL 10 11 = true := by decide +kernel
theorem lw_c0 {sl : Int} {sx : Int → Int} {G : pm_G} (hG : pm_Rules (pm_EL sl sx) G) (hx : ∀ i : Int, -2147483648 ≤ sx i ∧ sx i ≤ 2147483647) {i : Int} (h0 : 0 ≤ i) (h1 : i + 4 < sl) {s0 : pm_H} (LI : pm_lwI s0) (kk : ∀ t : pm_H, pm_lwI t → G 1265 [some (.inr (.inr (1000, 0))), some (.inr (.inr (0, 0))), some (.inr (.inr (40, 0))), some (.inl i)] [] 122 t) : G 200 [some (.inr (.inr (1000, 0))), some (.inr (.inr (0, 0))), some (.inr (.inr (40, 0))), some (.inl i)] [] 122 s0 := by
  obtain ⟨R0, K0, J0, C0, E0, P0⟩ := LI
  refine px_aload_n hG dL_law_200 rfl ?_
  refine px_aload_n hG dL_law_201 rfl ?_
  refine px_iload_n hG dL_law_202 rfl ?_
  refine px_iconst hG dL_law_203 ?_
  refine px_iadd hG dL_law_204 ?_
  refine px_sld hG dL_law_205 ⟨by omega, by show _ < sl; omega⟩ ?_
  show G 206 [some (.inr (.inr (1000, 0))), some (.inr (.inr (0, 0))), some (.inr (.inr (40, 0))), some (.inl i)] [.inl (sx (i + 1)), .inr (.inr (0, 0))] 122 s0
  refine px_aload_n hG dL_law_206 rfl ?_
  refine px_iload_n hG dL_law_207 rfl ?_
  refine px_iconst hG dL_law_208 ?_
  refine px_iadd hG dL_law_209 ?_
  refine px_sld hG dL_law_210 ⟨by omega, by show _ < sl; omega⟩ ?_
  show G 211 [some (.inr (.inr (1000, 0))), some (.inr (.inr (0, 0))), some (.inr (.inr (40, 0))), some (.inl i)] [.inl (sx (i + 2)), .inl (sx (i + 1)), .inr (.inr (0, 0))] 122 s0
  refine px_aload_n hG dL_law_211 rfl ?_
  refine px_iload_n hG dL_law_212 rfl ?_
  refine px_iconst hG dL_law_213 ?_
  refine px_iadd hG dL_law_214 ?_
  refine px_sld hG dL_law_215 ⟨by omega, by show _ < sl; omega⟩ ?_
  show G 216 [some (.inr (.inr (1000, 0))), some (.inr (.inr (0, 0))), some (.inr (.inr (40, 0))), some (.inl i)] [.inl (sx (i + 3)), .inl (sx (i + 2)), .inl (sx (i + 1)), .inr (.inr (0, 0))] 122 s0
  refine jv3 hG dL_law_216 ct_X10_road lk_L_13 ⟨rfl, rfl⟩ (by decide) ⟨Nat.le_of_ble_eq_true rfl, Nat.le_of_ble_eq_true rfl, Nat.le_of_ble_eq_true rfl⟩ (Nat.le_of_ble_eq_true rfl) ⟨(sx (i + 1)), (sx (i + 2)), (sx (i + 3)), rfl, rfl, R0, hx _, hx _, hx _, K0⟩ (fun r1 t2 p3 => ?_)
  obtain ⟨x4, rfl, Rt2, Ft2, bt2⟩ := p3 _ _ _ rfl
  have Ct2 := pm_CH_eq (fun q => Ft2 46 0 q rfl) C0
  have Kt2 : pm_K1 t2 := bt2
  have Jt2 := pm_J2_fr Ft2 rfl J0
  have Pt2 : pm_SP t2 := pm_SP_c P0 (fun r q => Ft2 2 r q rfl) (Ft2 31 0 1 rfl) (fun r q => Ft2 32 r q rfl) (fun r q => Ft2 33 r q rfl)
  have Et2 : pm_LE t2 := fun q a b => ⟨(Ft2 36 0 q rfl).trans ((E0 q a b).1.trans (Ft2 64 0 q rfl).symm), (Ft2 37 0 q rfl).trans ((E0 q a b).2.trans (Ft2 65 0 q rfl).symm)⟩
  show G 219 [some (.inr (.inr (1000, 0))), some (.inr (.inr (0, 0))), some (.inr (.inr (40, 0))), some (.inl i)] [.inl x4] 122 t2
  refine px_popi hG dL_law_219 ?_
  refine px_aload_n hG dL_law_220 rfl ?_
  refine px_aload_n hG dL_law_221 rfl ?_
  refine px_iload_n hG dL_law_222 rfl ?_
  refine px_iconst hG dL_law_223 ?_
  refine px_iadd hG dL_law_224 ?_
  refine px_sld hG dL_law_225 ⟨by omega, by show _ < sl; omega⟩ ?_
  show G 226 [some (.inr (.inr (1000, 0))), some (.inr (.inr (0, 0))), some (.inr (.inr (40, 0))), some (.inl i)] [.inl (sx (i + 1)), .inr (.inr (40, 0))] 122 t2
  refine px_aload_n hG dL_law_226 rfl ?_
  refine px_iload_n hG dL_law_227 rfl ?_
  refine px_iconst hG dL_law_228 ?_
  refine px_iadd hG dL_law_229 ?_
  refine px_sld hG dL_law_230 ⟨by omega, by show _ < sl; omega⟩ ?_
  show G 231 [some (.inr (.inr (1000, 0))), some (.inr (.inr (0, 0))), some (.inr (.inr (40, 0))), some (.inl i)] [.inl (sx (i + 2)), .inl (sx (i + 1)), .inr (.inr (40, 0))] 122 t2
  refine px_aload_n hG dL_law_231 rfl ?_
  refine px_iload_n hG dL_law_232 rfl ?_
  refine px_iconst hG dL_law_233 ?_
  refine px_iadd hG dL_law_234 ?_
  refine px_sld hG dL_law_235 ⟨by omega, by show _ < sl; omega⟩ ?_
  show G 236 [some (.inr (.inr (1000, 0))), some (.inr (.inr (0, 0))), some (.inr (.inr (40, 0))), some (.inl i)] [.inl (sx (i + 3)), .inl (sx (i + 2)), .inl (sx (i + 1)), .inr (.inr (40, 0))] 122 t2
  refine jv3 hG dL_law_236 ct_X11_road lk_L_17 ⟨rfl, rfl⟩ (by decide) ⟨Nat.le_of_ble_eq_true rfl, Nat.le_of_ble_eq_true rfl, Nat.le_of_ble_eq_true rfl⟩ (Nat.le_of_ble_eq_true rfl) ⟨(sx (i + 1)), (sx (i + 2)), (sx (i + 3)), rfl, rfl, Rt2, ⟨hx _, hx _, hx _⟩, Jt2⟩ (fun r5 t6 p7 => ?_)
  obtain ⟨x8, rfl, Rt6, Ft6, bt6⟩ := p7 _ _ _ rfl
  have Ct6 := pm_CH_eq (fun q => Ft6 46 0 q rfl) Ct2
  have Kt6 : pm_K1 t6 := pm_K1_c Kt2 (Ft6 3 0 0 rfl) (Ft6 3 0 1 rfl) (Ft6 3 0 2 rfl) (Ft6 3 0 3 rfl)
  have Jt6 := bt6.1
  have Pt6 : pm_SP t6 := pm_SP_c Pt2 (fun r q => Ft6 2 r q rfl) (Ft6 31 0 1 rfl) (fun r q => Ft6 32 r q rfl) (fun r q => Ft6 33 r q rfl)
  have Et6 : pm_LE t6 := fun q a b => ⟨(Ft6 36 0 q rfl).trans ((Et2 q a b).1.trans (Ft6 64 0 q rfl).symm), (Ft6 37 0 q rfl).trans ((Et2 q a b).2.trans (Ft6 65 0 q rfl).symm)⟩
  show G 239 [some (.inr (.inr (1000, 0))), some (.inr (.inr (0, 0))), some (.inr (.inr (40, 0))), some (.inl i)] [.inl x8] 122 t6
  refine px_popi hG dL_law_239 ?_
  refine px_goto hG dL_law_240 (tgt := 1265) (by decide) ?_
  exact kk t6 ⟨Rt6, Kt6, Jt6, Ct6, Et6, Pt6⟩
theorem lw_c1 {sl : Int} {sx : Int → Int} {G : pm_G} (hG : pm_Rules (pm_EL sl sx) G) (hx : ∀ i : Int, -2147483648 ≤ sx i ∧ sx i ≤ 2147483647) {i : Int} (h0 : 0 ≤ i) (h1 : i + 4 < sl) {s0 : pm_H} (LI : pm_lwI s0) (kk : ∀ t : pm_H, pm_lwI t → G 1265 [some (.inr (.inr (1000, 0))), some (.inr (.inr (0, 0))), some (.inr (.inr (40, 0))), some (.inl i)] [] 122 t) : G 243 [some (.inr (.inr (1000, 0))), some (.inr (.inr (0, 0))), some (.inr (.inr (40, 0))), some (.inl i)] [] 122 s0 := by
  obtain ⟨R0, K0, J0, C0, E0, P0⟩ := LI
  refine px_aload_n hG dL_law_243 rfl ?_
  refine px_aload_n hG dL_law_244 rfl ?_
  refine px_iload_n hG dL_law_245 rfl ?_
  refine px_iconst hG dL_law_246 ?_
  refine px_iadd hG dL_law_247 ?_
  refine px_sld hG dL_law_248 ⟨by omega, by show _ < sl; omega⟩ ?_
  show G 249 [some (.inr (.inr (1000, 0))), some (.inr (.inr (0, 0))), some (.inr (.inr (40, 0))), some (.inl i)] [.inl (sx (i + 1)), .inr (.inr (0, 0))] 122 s0
  refine jv1 hG dL_law_249 ct_X10_car lk_L_18 ⟨rfl, rfl⟩ (by decide) ⟨Nat.le_of_ble_eq_true rfl, Nat.le_of_ble_eq_true rfl, Nat.le_of_ble_eq_true rfl⟩ (Nat.le_of_ble_eq_true rfl) ⟨(sx (i + 1)), rfl, rfl, R0, hx _, K0⟩ (fun r1 t2 p3 => ?_)
  obtain ⟨x4, rfl, Rt2, Ft2, bt2⟩ := p3 _ rfl
  have Ct2 := pm_CH_eq (fun q => Ft2 46 0 q rfl) C0
  have Kt2 : pm_K1 t2 := bt2
  have Jt2 := pm_J2_fr Ft2 rfl J0
  have Pt2 : pm_SP t2 := pm_SP_c P0 (fun r q => Ft2 2 r q rfl) (Ft2 31 0 1 rfl) (fun r q => Ft2 32 r q rfl) (fun r q => Ft2 33 r q rfl)
  have Et2 : pm_LE t2 := fun q a b => ⟨(Ft2 36 0 q rfl).trans ((E0 q a b).1.trans (Ft2 64 0 q rfl).symm), (Ft2 37 0 q rfl).trans ((E0 q a b).2.trans (Ft2 65 0 q rfl).symm)⟩
  show G 252 [some (.inr (.inr (1000, 0))), some (.inr (.inr (0, 0))), some (.inr (.inr (40, 0))), some (.inl i)] [.inl x4] 122 t2
  refine px_popi hG dL_law_252 ?_
  refine px_aload_n hG dL_law_253 rfl ?_
  refine px_aload_n hG dL_law_254 rfl ?_
  refine px_iload_n hG dL_law_255 rfl ?_
  refine px_iconst hG dL_law_256 ?_
  refine px_iadd hG dL_law_257 ?_
  refine px_sld hG dL_law_258 ⟨by omega, by show _ < sl; omega⟩ ?_
  show G 259 [some (.inr (.inr (1000, 0))), some (.inr (.inr (0, 0))), some (.inr (.inr (40, 0))), some (.inl i)] [.inl (sx (i + 1)), .inr (.inr (40, 0))] 122 t2
  refine jv1 hG dL_law_259 ct_X11_car lk_L_22 ⟨rfl, rfl⟩ (by decide) ⟨Nat.le_of_ble_eq_true rfl, Nat.le_of_ble_eq_true rfl, Nat.le_of_ble_eq_true rfl⟩ (Nat.le_of_ble_eq_true rfl) ⟨(sx (i + 1)), rfl, rfl, Rt2, hx _, Jt2⟩ (fun r5 t6 p7 => ?_)
  obtain ⟨x8, rfl, Rt6, Ft6, bt6⟩ := p7 _ rfl
  have Ct6 := pm_CH_eq (fun q => Ft6 46 0 q rfl) Ct2
  have Kt6 : pm_K1 t6 := pm_K1_c Kt2 (Ft6 3 0 0 rfl) (Ft6 3 0 1 rfl) (Ft6 3 0 2 rfl) (Ft6 3 0 3 rfl)
  have Jt6 := bt6
  have Pt6 : pm_SP t6 := pm_SP_c Pt2 (fun r q => Ft6 2 r q rfl) (Ft6 31 0 1 rfl) (fun r q => Ft6 32 r q rfl) (fun r q => Ft6 33 r q rfl)
  have Et6 : pm_LE t6 := fun q a b => ⟨(Ft6 36 0 q rfl).trans ((Et2 q a b).1.trans (Ft6 64 0 q rfl).symm), (Ft6 37 0 q rfl).trans ((Et2 q a b).2.trans (Ft6 65 0 q rfl).symm)⟩
  show G 262 [some (.inr (.inr (1000, 0))), some (.inr (.inr (0, 0))), some (.inr (.inr (40, 0))), some (.inl i)] [.inl x8] 122 t6
  refine px_popi hG dL_law_262 ?_
  refine px_goto hG dL_law_263 (tgt := 1265) (by decide) ?_
  exact kk t6 ⟨Rt6, Kt6, Jt6, Ct6, Et6, Pt6⟩
theorem lw_c2 {sl : Int} {sx : Int → Int} {G : pm_G} (hG : pm_Rules (pm_EL sl sx) G) (hx : ∀ i : Int, -2147483648 ≤ sx i ∧ sx i ≤ 2147483647) {i : Int} (h0 : 0 ≤ i) (h1 : i + 4 < sl) {s0 : pm_H} (LI : pm_lwI s0) (kk : ∀ t : pm_H, pm_lwI t → G 1265 [some (.inr (.inr (1000, 0))), some (.inr (.inr (0, 0))), some (.inr (.inr (40, 0))), some (.inl i)] [] 122 t) : G 266 [some (.inr (.inr (1000, 0))), some (.inr (.inr (0, 0))), some (.inr (.inr (40, 0))), some (.inl i)] [] 122 s0 := by
  obtain ⟨R0, K0, J0, C0, E0, P0⟩ := LI
  refine px_aload_n hG dL_law_266 rfl ?_
  refine px_aload_n hG dL_law_267 rfl ?_
  refine px_iload_n hG dL_law_268 rfl ?_
  refine px_iconst hG dL_law_269 ?_
  refine px_iadd hG dL_law_270 ?_
  refine px_sld hG dL_law_271 ⟨by omega, by show _ < sl; omega⟩ ?_
  show G 272 [some (.inr (.inr (1000, 0))), some (.inr (.inr (0, 0))), some (.inr (.inr (40, 0))), some (.inl i)] [.inl (sx (i + 1)), .inr (.inr (0, 0))] 122 s0
  refine px_aload_n hG dL_law_272 rfl ?_
  refine px_iload_n hG dL_law_273 rfl ?_
  refine px_iconst hG dL_law_274 ?_
  refine px_iadd hG dL_law_275 ?_
  refine px_sld hG dL_law_276 ⟨by omega, by show _ < sl; omega⟩ ?_
  show G 277 [some (.inr (.inr (1000, 0))), some (.inr (.inr (0, 0))), some (.inr (.inr (40, 0))), some (.inl i)] [.inl (sx (i + 2)), .inl (sx (i + 1)), .inr (.inr (0, 0))] 122 s0
  refine jv2 hG dL_law_277 ct_X10_wish lk_L_23 ⟨rfl, rfl⟩ (by decide) ⟨Nat.le_of_ble_eq_true rfl, Nat.le_of_ble_eq_true rfl, Nat.le_of_ble_eq_true rfl⟩ (Nat.le_of_ble_eq_true rfl) ⟨(sx (i + 1)), (sx (i + 2)), rfl, rfl, R0, hx _, hx _, K0⟩ (fun r1 t2 p3 => ?_)
  obtain ⟨x4, rfl, Rt2, Ft2, bt2⟩ := p3 _ _ rfl
  have Ct2 := pm_CH_eq (fun q => Ft2 46 0 q rfl) C0
  have Kt2 : pm_K1 t2 := bt2
  have Jt2 := pm_J2_fr Ft2 rfl J0
  have Pt2 : pm_SP t2 := pm_SP_c P0 (fun r q => Ft2 2 r q rfl) (Ft2 31 0 1 rfl) (fun r q => Ft2 32 r q rfl) (fun r q => Ft2 33 r q rfl)
  have Et2 : pm_LE t2 := fun q a b => ⟨(Ft2 36 0 q rfl).trans ((E0 q a b).1.trans (Ft2 64 0 q rfl).symm), (Ft2 37 0 q rfl).trans ((E0 q a b).2.trans (Ft2 65 0 q rfl).symm)⟩
  show G 280 [some (.inr (.inr (1000, 0))), some (.inr (.inr (0, 0))), some (.inr (.inr (40, 0))), some (.inl i)] [.inl x4] 122 t2
  refine px_popi hG dL_law_280 ?_
  refine px_aload_n hG dL_law_281 rfl ?_
  refine px_aload_n hG dL_law_282 rfl ?_
  refine px_iload_n hG dL_law_283 rfl ?_
  refine px_iconst hG dL_law_284 ?_
  refine px_iadd hG dL_law_285 ?_
  refine px_sld hG dL_law_286 ⟨by omega, by show _ < sl; omega⟩ ?_
  show G 287 [some (.inr (.inr (1000, 0))), some (.inr (.inr (0, 0))), some (.inr (.inr (40, 0))), some (.inl i)] [.inl (sx (i + 1)), .inr (.inr (40, 0))] 122 t2
  refine px_aload_n hG dL_law_287 rfl ?_
  refine px_iload_n hG dL_law_288 rfl ?_
  refine px_iconst hG dL_law_289 ?_
  refine px_iadd hG dL_law_290 ?_
  refine px_sld hG dL_law_291 ⟨by omega, by show _ < sl; omega⟩ ?_
  show G 292 [some (.inr (.inr (1000, 0))), some (.inr (.inr (0, 0))), some (.inr (.inr (40, 0))), some (.inl i)] [.inl (sx (i + 2)), .inl (sx (i + 1)), .inr (.inr (40, 0))] 122 t2
  refine jv2 hG dL_law_292 ct_X11_wish lk_L_27 ⟨rfl, rfl⟩ (by decide) ⟨Nat.le_of_ble_eq_true rfl, Nat.le_of_ble_eq_true rfl, Nat.le_of_ble_eq_true rfl⟩ (Nat.le_of_ble_eq_true rfl) ⟨(sx (i + 1)), (sx (i + 2)), rfl, rfl, Rt2, ⟨hx _, hx _⟩, Jt2⟩ (fun r5 t6 p7 => ?_)
  obtain ⟨x8, rfl, Rt6, Ft6, bt6⟩ := p7 _ _ rfl
  have Ct6 := pm_CH_eq (fun q => Ft6 46 0 q rfl) Ct2
  have Kt6 : pm_K1 t6 := pm_K1_c Kt2 (Ft6 3 0 0 rfl) (Ft6 3 0 1 rfl) (Ft6 3 0 2 rfl) (Ft6 3 0 3 rfl)
  have Jt6 := bt6
  have Pt6 : pm_SP t6 := pm_SP_c Pt2 (fun r q => Ft6 2 r q rfl) (Ft6 31 0 1 rfl) (fun r q => Ft6 32 r q rfl) (fun r q => Ft6 33 r q rfl)
  have Et6 : pm_LE t6 := fun q a b => ⟨(Ft6 36 0 q rfl).trans ((Et2 q a b).1.trans (Ft6 64 0 q rfl).symm), (Ft6 37 0 q rfl).trans ((Et2 q a b).2.trans (Ft6 65 0 q rfl).symm)⟩
  show G 295 [some (.inr (.inr (1000, 0))), some (.inr (.inr (0, 0))), some (.inr (.inr (40, 0))), some (.inl i)] [.inl x8] 122 t6
  refine px_popi hG dL_law_295 ?_
  refine px_goto hG dL_law_296 (tgt := 1265) (by decide) ?_
  exact kk t6 ⟨Rt6, Kt6, Jt6, Ct6, Et6, Pt6⟩
theorem lw_c3 {sl : Int} {sx : Int → Int} {G : pm_G} (hG : pm_Rules (pm_EL sl sx) G) (hx : ∀ i : Int, -2147483648 ≤ sx i ∧ sx i ≤ 2147483647) {i : Int} (h0 : 0 ≤ i) (h1 : i + 4 < sl) {s0 : pm_H} (LI : pm_lwI s0) (kk : ∀ t : pm_H, pm_lwI t → G 1265 [some (.inr (.inr (1000, 0))), some (.inr (.inr (0, 0))), some (.inr (.inr (40, 0))), some (.inl i)] [] 122 t) : G 299 [some (.inr (.inr (1000, 0))), some (.inr (.inr (0, 0))), some (.inr (.inr (40, 0))), some (.inl i)] [] 122 s0 := by
  obtain ⟨R0, K0, J0, C0, E0, P0⟩ := LI
  refine px_aload_n hG dL_law_299 rfl ?_
  refine px_aload_n hG dL_law_300 rfl ?_
  refine px_iload_n hG dL_law_301 rfl ?_
  refine px_iconst hG dL_law_302 ?_
  refine px_iadd hG dL_law_303 ?_
  refine px_sld hG dL_law_304 ⟨by omega, by show _ < sl; omega⟩ ?_
  show G 305 [some (.inr (.inr (1000, 0))), some (.inr (.inr (0, 0))), some (.inr (.inr (40, 0))), some (.inl i)] [.inl (sx (i + 1)), .inr (.inr (0, 0))] 122 s0
  refine px_aload_n hG dL_law_305 rfl ?_
  refine px_iload_n hG dL_law_306 rfl ?_
  refine px_iconst hG dL_law_307 ?_
  refine px_iadd hG dL_law_308 ?_
  refine px_sld hG dL_law_309 ⟨by omega, by show _ < sl; omega⟩ ?_
  show G 310 [some (.inr (.inr (1000, 0))), some (.inr (.inr (0, 0))), some (.inr (.inr (40, 0))), some (.inl i)] [.inl (sx (i + 2)), .inl (sx (i + 1)), .inr (.inr (0, 0))] 122 s0
  refine jv2 hG dL_law_310 ct_X10_length lk_L_28 ⟨rfl, rfl⟩ (by decide) ⟨Nat.le_of_ble_eq_true rfl, Nat.le_of_ble_eq_true rfl, Nat.le_of_ble_eq_true rfl⟩ (Nat.le_of_ble_eq_true rfl) ⟨(sx (i + 1)), (sx (i + 2)), rfl, rfl, R0, hx _, hx _, K0⟩ (fun r1 t2 p3 => ?_)
  obtain ⟨x4, rfl, Rt2, Ft2, bt2⟩ := p3 _ _ rfl
  have Ct2 := pm_CH_eq (fun q => Ft2 46 0 q rfl) C0
  have Kt2 : pm_K1 t2 := bt2
  have Jt2 := pm_J2_fr Ft2 rfl J0
  have Pt2 : pm_SP t2 := pm_SP_c P0 (fun r q => Ft2 2 r q rfl) (Ft2 31 0 1 rfl) (fun r q => Ft2 32 r q rfl) (fun r q => Ft2 33 r q rfl)
  have Et2 : pm_LE t2 := fun q a b => ⟨(Ft2 36 0 q rfl).trans ((E0 q a b).1.trans (Ft2 64 0 q rfl).symm), (Ft2 37 0 q rfl).trans ((E0 q a b).2.trans (Ft2 65 0 q rfl).symm)⟩
  show G 313 [some (.inr (.inr (1000, 0))), some (.inr (.inr (0, 0))), some (.inr (.inr (40, 0))), some (.inl i)] [.inl x4] 122 t2
  refine px_popi hG dL_law_313 ?_
  refine px_aload_n hG dL_law_314 rfl ?_
  refine px_aload_n hG dL_law_315 rfl ?_
  refine px_iload_n hG dL_law_316 rfl ?_
  refine px_iconst hG dL_law_317 ?_
  refine px_iadd hG dL_law_318 ?_
  refine px_sld hG dL_law_319 ⟨by omega, by show _ < sl; omega⟩ ?_
  show G 320 [some (.inr (.inr (1000, 0))), some (.inr (.inr (0, 0))), some (.inr (.inr (40, 0))), some (.inl i)] [.inl (sx (i + 1)), .inr (.inr (40, 0))] 122 t2
  refine px_aload_n hG dL_law_320 rfl ?_
  refine px_iload_n hG dL_law_321 rfl ?_
  refine px_iconst hG dL_law_322 ?_
  refine px_iadd hG dL_law_323 ?_
  refine px_sld hG dL_law_324 ⟨by omega, by show _ < sl; omega⟩ ?_
  show G 325 [some (.inr (.inr (1000, 0))), some (.inr (.inr (0, 0))), some (.inr (.inr (40, 0))), some (.inl i)] [.inl (sx (i + 2)), .inl (sx (i + 1)), .inr (.inr (40, 0))] 122 t2
  refine jv2 hG dL_law_325 ct_X11_length lk_L_31 ⟨rfl, rfl⟩ (by decide) ⟨Nat.le_of_ble_eq_true rfl, Nat.le_of_ble_eq_true rfl, Nat.le_of_ble_eq_true rfl⟩ (Nat.le_of_ble_eq_true rfl) ⟨(sx (i + 1)), (sx (i + 2)), rfl, rfl, Rt2, ⟨hx _, hx _⟩, Jt2⟩ (fun r5 t6 p7 => ?_)
  obtain ⟨x8, rfl, Rt6, Ft6⟩ := p7 _ _ rfl
  have Ct6 := pm_CH_eq (fun q => Ft6 46 0 q rfl) Ct2
  have Kt6 : pm_K1 t6 := pm_K1_c Kt2 (Ft6 3 0 0 rfl) (Ft6 3 0 1 rfl) (Ft6 3 0 2 rfl) (Ft6 3 0 3 rfl)
  have Jt6 := pm_J2_fr Ft6 rfl Jt2
  have Pt6 : pm_SP t6 := pm_SP_c Pt2 (fun r q => Ft6 2 r q rfl) (Ft6 31 0 1 rfl) (fun r q => Ft6 32 r q rfl) (fun r q => Ft6 33 r q rfl)
  have Et6 : pm_LE t6 := fun q a b => ⟨(Ft6 36 0 q rfl).trans ((Et2 q a b).1.trans (Ft6 64 0 q rfl).symm), (Ft6 37 0 q rfl).trans ((Et2 q a b).2.trans (Ft6 65 0 q rfl).symm)⟩
  show G 328 [some (.inr (.inr (1000, 0))), some (.inr (.inr (0, 0))), some (.inr (.inr (40, 0))), some (.inl i)] [.inl x8] 122 t6
  refine px_popi hG dL_law_328 ?_
  refine px_goto hG dL_law_329 (tgt := 1265) (by decide) ?_
  exact kk t6 ⟨Rt6, Kt6, Jt6, Ct6, Et6, Pt6⟩
theorem lw_c4 {sl : Int} {sx : Int → Int} {G : pm_G} (hG : pm_Rules (pm_EL sl sx) G) (hx : ∀ i : Int, -2147483648 ≤ sx i ∧ sx i ≤ 2147483647) {i : Int} (h0 : 0 ≤ i) (h1 : i + 4 < sl) {s0 : pm_H} (LI : pm_lwI s0) (kk : ∀ t : pm_H, pm_lwI t → G 1265 [some (.inr (.inr (1000, 0))), some (.inr (.inr (0, 0))), some (.inr (.inr (40, 0))), some (.inl i)] [] 122 t) : G 332 [some (.inr (.inr (1000, 0))), some (.inr (.inr (0, 0))), some (.inr (.inr (40, 0))), some (.inl i)] [] 122 s0 := by
  obtain ⟨R0, K0, J0, C0, E0, P0⟩ := LI
  refine px_aload_n hG dL_law_332 rfl ?_
  refine jv0 hG dL_law_333 ct_X10_undo lk_L_32 ⟨rfl, rfl⟩ (by decide) ⟨Nat.le_of_ble_eq_true rfl, Nat.le_of_ble_eq_true rfl, Nat.le_of_ble_eq_true rfl⟩ (Nat.le_of_ble_eq_true rfl) ⟨rfl, rfl, R0, K0⟩ (fun r1 t2 p3 => ?_)
  obtain ⟨x4, rfl, Rt2, Ft2, bt2⟩ := p3 rfl
  have Ct2 := pm_CH_eq (fun q => Ft2 46 0 q rfl) C0
  have Kt2 : pm_K1 t2 := bt2
  have Jt2 := pm_J2_fr Ft2 rfl J0
  have Pt2 : pm_SP t2 := pm_SP_c P0 (fun r q => Ft2 2 r q rfl) (Ft2 31 0 1 rfl) (fun r q => Ft2 32 r q rfl) (fun r q => Ft2 33 r q rfl)
  have Et2 : pm_LE t2 := fun q a b => ⟨(Ft2 36 0 q rfl).trans ((E0 q a b).1.trans (Ft2 64 0 q rfl).symm), (Ft2 37 0 q rfl).trans ((E0 q a b).2.trans (Ft2 65 0 q rfl).symm)⟩
  show G 336 [some (.inr (.inr (1000, 0))), some (.inr (.inr (0, 0))), some (.inr (.inr (40, 0))), some (.inl i)] [.inl x4] 122 t2
  refine px_popi hG dL_law_336 ?_
  refine px_aload_n hG dL_law_337 rfl ?_
  refine jv0 hG dL_law_338 ct_X11_undo lk_L_36 ⟨rfl, rfl⟩ (by decide) ⟨Nat.le_of_ble_eq_true rfl, Nat.le_of_ble_eq_true rfl, Nat.le_of_ble_eq_true rfl⟩ (Nat.le_of_ble_eq_true rfl) ⟨rfl, rfl, Rt2, Jt2⟩ (fun r5 t6 p7 => ?_)
  obtain ⟨x8, rfl, Rt6, Ft6, bt6⟩ := p7 rfl
  have Ct6 := pm_CH_eq (fun q => Ft6 46 0 q rfl) Ct2
  have Kt6 : pm_K1 t6 := pm_K1_c Kt2 (Ft6 3 0 0 rfl) (Ft6 3 0 1 rfl) (Ft6 3 0 2 rfl) (Ft6 3 0 3 rfl)
  have Jt6 := bt6
  have Pt6 : pm_SP t6 := pm_SP_c Pt2 (fun r q => Ft6 2 r q rfl) (Ft6 31 0 1 rfl) (fun r q => Ft6 32 r q rfl) (fun r q => Ft6 33 r q rfl)
  have Et6 : pm_LE t6 := fun q a b => ⟨(Ft6 36 0 q rfl).trans ((Et2 q a b).1.trans (Ft6 64 0 q rfl).symm), (Ft6 37 0 q rfl).trans ((Et2 q a b).2.trans (Ft6 65 0 q rfl).symm)⟩
  show G 341 [some (.inr (.inr (1000, 0))), some (.inr (.inr (0, 0))), some (.inr (.inr (40, 0))), some (.inl i)] [.inl x8] 122 t6
  refine px_popi hG dL_law_341 ?_
  refine px_goto hG dL_law_342 (tgt := 1265) (by decide) ?_
  exact kk t6 ⟨Rt6, Kt6, Jt6, Ct6, Et6, Pt6⟩
theorem lw_c5 {sl : Int} {sx : Int → Int} {G : pm_G} (hG : pm_Rules (pm_EL sl sx) G) (hx : ∀ i : Int, -2147483648 ≤ sx i ∧ sx i ≤ 2147483647) {i : Int} (h0 : 0 ≤ i) (h1 : i + 4 < sl) {s0 : pm_H} (LI : pm_lwI s0) (kk : ∀ t : pm_H, pm_lwI t → G 1265 [some (.inr (.inr (1000, 0))), some (.inr (.inr (0, 0))), some (.inr (.inr (40, 0))), some (.inl i)] [] 122 t) : G 345 [some (.inr (.inr (1000, 0))), some (.inr (.inr (0, 0))), some (.inr (.inr (40, 0))), some (.inl i)] [] 122 s0 := by
  obtain ⟨R0, K0, J0, C0, E0, P0⟩ := LI
  refine px_aload_n hG dL_law_345 rfl ?_
  refine jv0 hG dL_law_346 ct_X10_clear lk_L_37 ⟨rfl, rfl⟩ (by decide) ⟨Nat.le_of_ble_eq_true rfl, Nat.le_of_ble_eq_true rfl, Nat.le_of_ble_eq_true rfl⟩ (Nat.le_of_ble_eq_true rfl) ⟨rfl, rfl, R0, K0⟩ (fun r1 t2 p3 => ?_)
  obtain ⟨x4, rfl, Rt2, Ft2, bt2⟩ := p3 rfl
  have Ct2 := pm_CH_eq (fun q => Ft2 46 0 q rfl) C0
  have Kt2 : pm_K1 t2 := bt2
  have Jt2 := pm_J2_fr Ft2 rfl J0
  have Pt2 : pm_SP t2 := pm_SP_c P0 (fun r q => Ft2 2 r q rfl) (Ft2 31 0 1 rfl) (fun r q => Ft2 32 r q rfl) (fun r q => Ft2 33 r q rfl)
  have Et2 : pm_LE t2 := fun q a b => ⟨(Ft2 36 0 q rfl).trans ((E0 q a b).1.trans (Ft2 64 0 q rfl).symm), (Ft2 37 0 q rfl).trans ((E0 q a b).2.trans (Ft2 65 0 q rfl).symm)⟩
  show G 349 [some (.inr (.inr (1000, 0))), some (.inr (.inr (0, 0))), some (.inr (.inr (40, 0))), some (.inl i)] [.inl x4] 122 t2
  refine px_popi hG dL_law_349 ?_
  refine px_aload_n hG dL_law_350 rfl ?_
  refine jv0 hG dL_law_351 ct_X11_clear lk_L_40 ⟨rfl, rfl⟩ (by decide) ⟨Nat.le_of_ble_eq_true rfl, Nat.le_of_ble_eq_true rfl, Nat.le_of_ble_eq_true rfl⟩ (Nat.le_of_ble_eq_true rfl) ⟨rfl, rfl, Rt2, Jt2⟩ (fun r5 t6 p7 => ?_)
  obtain ⟨x8, rfl, Rt6, Ft6, bt6⟩ := p7 rfl
  have Ct6 := pm_CH_eq (fun q => Ft6 46 0 q rfl) Ct2
  have Kt6 : pm_K1 t6 := pm_K1_c Kt2 (Ft6 3 0 0 rfl) (Ft6 3 0 1 rfl) (Ft6 3 0 2 rfl) (Ft6 3 0 3 rfl)
  have Jt6 := bt6
  have Pt6 : pm_SP t6 := pm_SP_c Pt2 (fun r q => Ft6 2 r q rfl) (Ft6 31 0 1 rfl) (fun r q => Ft6 32 r q rfl) (fun r q => Ft6 33 r q rfl)
  have Et6 : pm_LE t6 := fun q a b => ⟨(Ft6 36 0 q rfl).trans ((Et2 q a b).1.trans (Ft6 64 0 q rfl).symm), (Ft6 37 0 q rfl).trans ((Et2 q a b).2.trans (Ft6 65 0 q rfl).symm)⟩
  show G 354 [some (.inr (.inr (1000, 0))), some (.inr (.inr (0, 0))), some (.inr (.inr (40, 0))), some (.inl i)] [.inl x8] 122 t6
  refine px_popi hG dL_law_354 ?_
  refine px_goto hG dL_law_355 (tgt := 1265) (by decide) ?_
  exact kk t6 ⟨Rt6, Kt6, Jt6, Ct6, Et6, Pt6⟩
theorem lw_c6 {sl : Int} {sx : Int → Int} {G : pm_G} (hG : pm_Rules (pm_EL sl sx) G) (hx : ∀ i : Int, -2147483648 ≤ sx i ∧ sx i ≤ 2147483647) {i : Int} (h0 : 0 ≤ i) (h1 : i + 4 < sl) {s0 : pm_H} (LI : pm_lwI s0) (kk : ∀ t : pm_H, pm_lwI t → G 1265 [some (.inr (.inr (1000, 0))), some (.inr (.inr (0, 0))), some (.inr (.inr (40, 0))), some (.inl i)] [] 122 t) : G 358 [some (.inr (.inr (1000, 0))), some (.inr (.inr (0, 0))), some (.inr (.inr (40, 0))), some (.inl i)] [] 122 s0 := by
  obtain ⟨R0, K0, J0, C0, E0, P0⟩ := LI
  refine px_aload_n hG dL_law_358 rfl ?_
  refine px_aload_n hG dL_law_359 rfl ?_
  refine px_iload_n hG dL_law_360 rfl ?_
  refine px_iconst hG dL_law_361 ?_
  refine px_iadd hG dL_law_362 ?_
  refine px_sld hG dL_law_363 ⟨by omega, by show _ < sl; omega⟩ ?_
  show G 364 [some (.inr (.inr (1000, 0))), some (.inr (.inr (0, 0))), some (.inr (.inr (40, 0))), some (.inl i)] [.inl (sx (i + 1)), .inr (.inr (0, 0))] 122 s0
  refine px_aload_n hG dL_law_364 rfl ?_
  refine px_iload_n hG dL_law_365 rfl ?_
  refine px_iconst hG dL_law_366 ?_
  refine px_iadd hG dL_law_367 ?_
  refine px_sld hG dL_law_368 ⟨by omega, by show _ < sl; omega⟩ ?_
  show G 369 [some (.inr (.inr (1000, 0))), some (.inr (.inr (0, 0))), some (.inr (.inr (40, 0))), some (.inl i)] [.inl (sx (i + 2)), .inl (sx (i + 1)), .inr (.inr (0, 0))] 122 s0
  refine jv2 hG dL_law_369 ct_X10_told lk_L_41 ⟨rfl, rfl⟩ (by decide) ⟨Nat.le_of_ble_eq_true rfl, Nat.le_of_ble_eq_true rfl, Nat.le_of_ble_eq_true rfl⟩ (Nat.le_of_ble_eq_true rfl) ⟨(sx (i + 1)), (sx (i + 2)), rfl, rfl, R0, hx _, hx _, K0⟩ (fun r1 t2 p3 => ?_)
  obtain ⟨x4, rfl, rfl⟩ := p3 _ _ rfl
  show G 372 [some (.inr (.inr (1000, 0))), some (.inr (.inr (0, 0))), some (.inr (.inr (40, 0))), some (.inl i)] [.inl x4] 122 s0
  refine px_popi hG dL_law_372 ?_
  refine px_aload_n hG dL_law_373 rfl ?_
  refine px_aload_n hG dL_law_374 rfl ?_
  refine px_iload_n hG dL_law_375 rfl ?_
  refine px_iconst hG dL_law_376 ?_
  refine px_iadd hG dL_law_377 ?_
  refine px_sld hG dL_law_378 ⟨by omega, by show _ < sl; omega⟩ ?_
  show G 379 [some (.inr (.inr (1000, 0))), some (.inr (.inr (0, 0))), some (.inr (.inr (40, 0))), some (.inl i)] [.inl (sx (i + 1)), .inr (.inr (40, 0))] 122 s0
  refine px_aload_n hG dL_law_379 rfl ?_
  refine px_iload_n hG dL_law_380 rfl ?_
  refine px_iconst hG dL_law_381 ?_
  refine px_iadd hG dL_law_382 ?_
  refine px_sld hG dL_law_383 ⟨by omega, by show _ < sl; omega⟩ ?_
  show G 384 [some (.inr (.inr (1000, 0))), some (.inr (.inr (0, 0))), some (.inr (.inr (40, 0))), some (.inl i)] [.inl (sx (i + 2)), .inl (sx (i + 1)), .inr (.inr (40, 0))] 122 s0
  refine jv2 hG dL_law_384 ct_X11_told lk_L_44 ⟨rfl, rfl⟩ (by decide) ⟨Nat.le_of_ble_eq_true rfl, Nat.le_of_ble_eq_true rfl, Nat.le_of_ble_eq_true rfl⟩ (Nat.le_of_ble_eq_true rfl) ⟨(sx (i + 1)), (sx (i + 2)), rfl, rfl, R0, ⟨hx _, hx _⟩, J0⟩ (fun r5 t6 p7 => ?_)
  obtain ⟨x8, rfl, Rt6, Ft6⟩ := p7 _ _ rfl
  have Ct6 := pm_CH_eq (fun q => Ft6 46 0 q rfl) C0
  have Kt6 : pm_K1 t6 := pm_K1_c K0 (Ft6 3 0 0 rfl) (Ft6 3 0 1 rfl) (Ft6 3 0 2 rfl) (Ft6 3 0 3 rfl)
  have Jt6 := pm_J2_fr Ft6 rfl J0
  have Pt6 : pm_SP t6 := pm_SP_c P0 (fun r q => Ft6 2 r q rfl) (Ft6 31 0 1 rfl) (fun r q => Ft6 32 r q rfl) (fun r q => Ft6 33 r q rfl)
  have Et6 : pm_LE t6 := fun q a b => ⟨(Ft6 36 0 q rfl).trans ((E0 q a b).1.trans (Ft6 64 0 q rfl).symm), (Ft6 37 0 q rfl).trans ((E0 q a b).2.trans (Ft6 65 0 q rfl).symm)⟩
  show G 387 [some (.inr (.inr (1000, 0))), some (.inr (.inr (0, 0))), some (.inr (.inr (40, 0))), some (.inl i)] [.inl x8] 122 t6
  refine px_popi hG dL_law_387 ?_
  refine px_goto hG dL_law_388 (tgt := 1265) (by decide) ?_
  exact kk t6 ⟨Rt6, Kt6, Jt6, Ct6, Et6, Pt6⟩
theorem lw_c7 {sl : Int} {sx : Int → Int} {G : pm_G} (hG : pm_Rules (pm_EL sl sx) G) (hx : ∀ i : Int, -2147483648 ≤ sx i ∧ sx i ≤ 2147483647) {i : Int} (h0 : 0 ≤ i) (h1 : i + 4 < sl) {s0 : pm_H} (LI : pm_lwI s0) (kk : ∀ t : pm_H, pm_lwI t → G 1265 [some (.inr (.inr (1000, 0))), some (.inr (.inr (0, 0))), some (.inr (.inr (40, 0))), some (.inl i)] [] 122 t) : G 391 [some (.inr (.inr (1000, 0))), some (.inr (.inr (0, 0))), some (.inr (.inr (40, 0))), some (.inl i)] [] 122 s0 := by
  obtain ⟨R0, K0, J0, C0, E0, P0⟩ := LI
  refine px_aload_n hG dL_law_391 rfl ?_
  refine px_aload_n hG dL_law_392 rfl ?_
  refine px_iload_n hG dL_law_393 rfl ?_
  refine px_iconst hG dL_law_394 ?_
  refine px_iadd hG dL_law_395 ?_
  refine px_sld hG dL_law_396 ⟨by omega, by show _ < sl; omega⟩ ?_
  show G 397 [some (.inr (.inr (1000, 0))), some (.inr (.inr (0, 0))), some (.inr (.inr (40, 0))), some (.inl i)] [.inl (sx (i + 1)), .inr (.inr (0, 0))] 122 s0
  refine jv1 hG dL_law_397 ct_X10_on lk_L_45 ⟨rfl, rfl⟩ (by decide) ⟨Nat.le_of_ble_eq_true rfl, Nat.le_of_ble_eq_true rfl, Nat.le_of_ble_eq_true rfl⟩ (Nat.le_of_ble_eq_true rfl) ⟨(sx (i + 1)), rfl, rfl, R0, hx _, K0⟩ (fun r1 t2 p3 => ?_)
  obtain ⟨x4, rfl, rfl⟩ := p3 _ rfl
  show G 400 [some (.inr (.inr (1000, 0))), some (.inr (.inr (0, 0))), some (.inr (.inr (40, 0))), some (.inl i)] [.inl x4] 122 s0
  refine px_popi hG dL_law_400 ?_
  refine px_aload_n hG dL_law_401 rfl ?_
  refine px_aload_n hG dL_law_402 rfl ?_
  refine px_iload_n hG dL_law_403 rfl ?_
  refine px_iconst hG dL_law_404 ?_
  refine px_iadd hG dL_law_405 ?_
  refine px_sld hG dL_law_406 ⟨by omega, by show _ < sl; omega⟩ ?_
  show G 407 [some (.inr (.inr (1000, 0))), some (.inr (.inr (0, 0))), some (.inr (.inr (40, 0))), some (.inl i)] [.inl (sx (i + 1)), .inr (.inr (40, 0))] 122 s0
  refine jv1 hG dL_law_407 ct_X11_on lk_L_48 ⟨rfl, rfl⟩ (by decide) ⟨Nat.le_of_ble_eq_true rfl, Nat.le_of_ble_eq_true rfl, Nat.le_of_ble_eq_true rfl⟩ (Nat.le_of_ble_eq_true rfl) ⟨(sx (i + 1)), rfl, rfl, R0, hx _, J0⟩ (fun r5 t6 p7 => ?_)
  obtain ⟨x8, rfl, Rt6, Ft6⟩ := p7 _ rfl
  have Ct6 := pm_CH_eq (fun q => Ft6 46 0 q rfl) C0
  have Kt6 : pm_K1 t6 := pm_K1_c K0 (Ft6 3 0 0 rfl) (Ft6 3 0 1 rfl) (Ft6 3 0 2 rfl) (Ft6 3 0 3 rfl)
  have Jt6 := pm_J2_fr Ft6 rfl J0
  have Pt6 : pm_SP t6 := pm_SP_c P0 (fun r q => Ft6 2 r q rfl) (Ft6 31 0 1 rfl) (fun r q => Ft6 32 r q rfl) (fun r q => Ft6 33 r q rfl)
  have Et6 : pm_LE t6 := fun q a b => ⟨(Ft6 36 0 q rfl).trans ((E0 q a b).1.trans (Ft6 64 0 q rfl).symm), (Ft6 37 0 q rfl).trans ((E0 q a b).2.trans (Ft6 65 0 q rfl).symm)⟩
  show G 410 [some (.inr (.inr (1000, 0))), some (.inr (.inr (0, 0))), some (.inr (.inr (40, 0))), some (.inl i)] [.inl x8] 122 t6
  refine px_popi hG dL_law_410 ?_
  refine px_goto hG dL_law_411 (tgt := 1265) (by decide) ?_
  exact kk t6 ⟨Rt6, Kt6, Jt6, Ct6, Et6, Pt6⟩
theorem lw_c8 {sl : Int} {sx : Int → Int} {G : pm_G} (hG : pm_Rules (pm_EL sl sx) G) (hx : ∀ i : Int, -2147483648 ≤ sx i ∧ sx i ≤ 2147483647) {i : Int} (h0 : 0 ≤ i) (h1 : i + 4 < sl) {s0 : pm_H} (LI : pm_lwI s0) (kk : ∀ t : pm_H, pm_lwI t → G 1265 [some (.inr (.inr (1000, 0))), some (.inr (.inr (0, 0))), some (.inr (.inr (40, 0))), some (.inl i)] [] 122 t) : G 414 [some (.inr (.inr (1000, 0))), some (.inr (.inr (0, 0))), some (.inr (.inr (40, 0))), some (.inl i)] [] 122 s0 := by
  obtain ⟨R0, K0, J0, C0, E0, P0⟩ := LI
  refine px_aload_n hG dL_law_414 rfl ?_
  refine px_aload_n hG dL_law_415 rfl ?_
  refine px_iload_n hG dL_law_416 rfl ?_
  refine px_iconst hG dL_law_417 ?_
  refine px_iadd hG dL_law_418 ?_
  refine px_sld hG dL_law_419 ⟨by omega, by show _ < sl; omega⟩ ?_
  show G 420 [some (.inr (.inr (1000, 0))), some (.inr (.inr (0, 0))), some (.inr (.inr (40, 0))), some (.inl i)] [.inl (sx (i + 1)), .inr (.inr (0, 0))] 122 s0
  refine jv1 hG dL_law_420 ct_X10_count lk_L_49 ⟨rfl, rfl⟩ (by decide) ⟨Nat.le_of_ble_eq_true rfl, Nat.le_of_ble_eq_true rfl, Nat.le_of_ble_eq_true rfl⟩ (Nat.le_of_ble_eq_true rfl) ⟨(sx (i + 1)), rfl, rfl, R0, hx _, K0⟩ (fun r1 t2 p3 => ?_)
  obtain ⟨x4, rfl, rfl⟩ := p3 _ rfl
  show G 423 [some (.inr (.inr (1000, 0))), some (.inr (.inr (0, 0))), some (.inr (.inr (40, 0))), some (.inl i)] [.inl x4] 122 s0
  refine px_popi hG dL_law_423 ?_
  refine px_aload_n hG dL_law_424 rfl ?_
  refine px_aload_n hG dL_law_425 rfl ?_
  refine px_iload_n hG dL_law_426 rfl ?_
  refine px_iconst hG dL_law_427 ?_
  refine px_iadd hG dL_law_428 ?_
  refine px_sld hG dL_law_429 ⟨by omega, by show _ < sl; omega⟩ ?_
  show G 430 [some (.inr (.inr (1000, 0))), some (.inr (.inr (0, 0))), some (.inr (.inr (40, 0))), some (.inl i)] [.inl (sx (i + 1)), .inr (.inr (40, 0))] 122 s0
  refine jv1 hG dL_law_430 ct_X11_count lk_L_52 ⟨rfl, rfl⟩ (by decide) ⟨Nat.le_of_ble_eq_true rfl, Nat.le_of_ble_eq_true rfl, Nat.le_of_ble_eq_true rfl⟩ (Nat.le_of_ble_eq_true rfl) ⟨(sx (i + 1)), rfl, rfl, R0, hx _, J0⟩ (fun r5 t6 p7 => ?_)
  obtain ⟨x8, rfl, Rt6, Ft6⟩ := p7 _ rfl
  have Ct6 := pm_CH_eq (fun q => Ft6 46 0 q rfl) C0
  have Kt6 : pm_K1 t6 := pm_K1_c K0 (Ft6 3 0 0 rfl) (Ft6 3 0 1 rfl) (Ft6 3 0 2 rfl) (Ft6 3 0 3 rfl)
  have Jt6 := pm_J2_fr Ft6 rfl J0
  have Pt6 : pm_SP t6 := pm_SP_c P0 (fun r q => Ft6 2 r q rfl) (Ft6 31 0 1 rfl) (fun r q => Ft6 32 r q rfl) (fun r q => Ft6 33 r q rfl)
  have Et6 : pm_LE t6 := fun q a b => ⟨(Ft6 36 0 q rfl).trans ((E0 q a b).1.trans (Ft6 64 0 q rfl).symm), (Ft6 37 0 q rfl).trans ((E0 q a b).2.trans (Ft6 65 0 q rfl).symm)⟩
  show G 433 [some (.inr (.inr (1000, 0))), some (.inr (.inr (0, 0))), some (.inr (.inr (40, 0))), some (.inl i)] [.inl x8] 122 t6
  refine px_popi hG dL_law_433 ?_
  refine px_goto hG dL_law_434 (tgt := 1265) (by decide) ?_
  exact kk t6 ⟨Rt6, Kt6, Jt6, Ct6, Et6, Pt6⟩
theorem lw_c9 {sl : Int} {sx : Int → Int} {G : pm_G} (hG : pm_Rules (pm_EL sl sx) G) (hx : ∀ i : Int, -2147483648 ≤ sx i ∧ sx i ≤ 2147483647) {i : Int} (h0 : 0 ≤ i) (h1 : i + 4 < sl) {s0 : pm_H} (LI : pm_lwI s0) (kk : ∀ t : pm_H, pm_lwI t → G 1265 [some (.inr (.inr (1000, 0))), some (.inr (.inr (0, 0))), some (.inr (.inr (40, 0))), some (.inl i)] [] 122 t) : G 437 [some (.inr (.inr (1000, 0))), some (.inr (.inr (0, 0))), some (.inr (.inr (40, 0))), some (.inl i)] [] 122 s0 := by
  obtain ⟨R0, K0, J0, C0, E0, P0⟩ := LI
  refine px_aload_n hG dL_law_437 rfl ?_
  refine jv0 hG dL_law_438 ct_X10_good lk_L_53 ⟨rfl, rfl⟩ (by decide) ⟨Nat.le_of_ble_eq_true rfl, Nat.le_of_ble_eq_true rfl, Nat.le_of_ble_eq_true rfl⟩ (Nat.le_of_ble_eq_true rfl) ⟨rfl, rfl, R0, K0⟩ (fun r1 t2 p3 => ?_)
  obtain ⟨x4, rfl, rfl⟩ := p3 rfl
  show G 441 [some (.inr (.inr (1000, 0))), some (.inr (.inr (0, 0))), some (.inr (.inr (40, 0))), some (.inl i)] [.inl x4] 122 s0
  refine px_popi hG dL_law_441 ?_
  refine px_aload_n hG dL_law_442 rfl ?_
  refine jv0 hG dL_law_443 ct_X11_good lk_L_56 ⟨rfl, rfl⟩ (by decide) ⟨Nat.le_of_ble_eq_true rfl, Nat.le_of_ble_eq_true rfl, Nat.le_of_ble_eq_true rfl⟩ (Nat.le_of_ble_eq_true rfl) ⟨rfl, rfl, R0, J0⟩ (fun r5 t6 p7 => ?_)
  obtain ⟨x8, rfl, Rt6, Ft6⟩ := p7 rfl
  have Ct6 := pm_CH_eq (fun q => Ft6 46 0 q rfl) C0
  have Kt6 : pm_K1 t6 := pm_K1_c K0 (Ft6 3 0 0 rfl) (Ft6 3 0 1 rfl) (Ft6 3 0 2 rfl) (Ft6 3 0 3 rfl)
  have Jt6 := pm_J2_fr Ft6 rfl J0
  have Pt6 : pm_SP t6 := pm_SP_c P0 (fun r q => Ft6 2 r q rfl) (Ft6 31 0 1 rfl) (fun r q => Ft6 32 r q rfl) (fun r q => Ft6 33 r q rfl)
  have Et6 : pm_LE t6 := fun q a b => ⟨(Ft6 36 0 q rfl).trans ((E0 q a b).1.trans (Ft6 64 0 q rfl).symm), (Ft6 37 0 q rfl).trans ((E0 q a b).2.trans (Ft6 65 0 q rfl).symm)⟩
  show G 446 [some (.inr (.inr (1000, 0))), some (.inr (.inr (0, 0))), some (.inr (.inr (40, 0))), some (.inl i)] [.inl x8] 122 t6
  refine px_popi hG dL_law_446 ?_
  refine px_goto hG dL_law_447 (tgt := 1265) (by decide) ?_
  exact kk t6 ⟨Rt6, Kt6, Jt6, Ct6, Et6, Pt6⟩
theorem lw_c10 {sl : Int} {sx : Int → Int} {G : pm_G} (hG : pm_Rules (pm_EL sl sx) G) (hx : ∀ i : Int, -2147483648 ≤ sx i ∧ sx i ≤ 2147483647) {i : Int} (h0 : 0 ≤ i) (h1 : i + 4 < sl) {s0 : pm_H} (LI : pm_lwI s0) (kk : ∀ t : pm_H, pm_lwI t → G 1265 [some (.inr (.inr (1000, 0))), some (.inr (.inr (0, 0))), some (.inr (.inr (40, 0))), some (.inl i)] [] 122 t) : G 450 [some (.inr (.inr (1000, 0))), some (.inr (.inr (0, 0))), some (.inr (.inr (40, 0))), some (.inl i)] [] 122 s0 := by
  obtain ⟨R0, K0, J0, C0, E0, P0⟩ := LI
  refine px_aload_n hG dL_law_450 rfl ?_
  refine jv0 hG dL_law_451 ct_X10_ways lk_L_57 ⟨rfl, rfl⟩ (by decide) ⟨Nat.le_of_ble_eq_true rfl, Nat.le_of_ble_eq_true rfl, Nat.le_of_ble_eq_true rfl⟩ (Nat.le_of_ble_eq_true rfl) ⟨rfl, rfl, R0, K0⟩ (fun r1 t2 p3 => ?_)
  obtain ⟨x4, rfl, Rt2, Ft2, bt2⟩ := p3 rfl
  have Ct2 := pm_CH_eq (fun q => Ft2 46 0 q rfl) C0
  have Kt2 : pm_K1 t2 := bt2
  have Jt2 := pm_J2_fr Ft2 rfl J0
  have Pt2 : pm_SP t2 := pm_SP_c P0 (fun r q => Ft2 2 r q rfl) (Ft2 31 0 1 rfl) (fun r q => Ft2 32 r q rfl) (fun r q => Ft2 33 r q rfl)
  have Et2 : pm_LE t2 := fun q a b => ⟨(Ft2 36 0 q rfl).trans ((E0 q a b).1.trans (Ft2 64 0 q rfl).symm), (Ft2 37 0 q rfl).trans ((E0 q a b).2.trans (Ft2 65 0 q rfl).symm)⟩
  show G 454 [some (.inr (.inr (1000, 0))), some (.inr (.inr (0, 0))), some (.inr (.inr (40, 0))), some (.inl i)] [.inl x4] 122 t2
  refine px_popi hG dL_law_454 ?_
  refine px_aload_n hG dL_law_455 rfl ?_
  refine jv0 hG dL_law_456 ct_X11_ways lk_L_60 ⟨rfl, rfl⟩ (by decide) ⟨Nat.le_of_ble_eq_true rfl, Nat.le_of_ble_eq_true rfl, Nat.le_of_ble_eq_true rfl⟩ (Nat.le_of_ble_eq_true rfl) ⟨rfl, rfl, Rt2, Jt2⟩ (fun r5 t6 p7 => ?_)
  obtain ⟨x8, rfl, Rt6, Ft6, bt6⟩ := p7 rfl
  have Ct6 := pm_CH_eq (fun q => Ft6 46 0 q rfl) Ct2
  have Kt6 : pm_K1 t6 := pm_K1_c Kt2 (Ft6 3 0 0 rfl) (Ft6 3 0 1 rfl) (Ft6 3 0 2 rfl) (Ft6 3 0 3 rfl)
  have Jt6 := bt6
  have Pt6 : pm_SP t6 := pm_SP_c Pt2 (fun r q => Ft6 2 r q rfl) (Ft6 31 0 1 rfl) (fun r q => Ft6 32 r q rfl) (fun r q => Ft6 33 r q rfl)
  have Et6 : pm_LE t6 := fun q a b => ⟨(Ft6 36 0 q rfl).trans ((Et2 q a b).1.trans (Ft6 64 0 q rfl).symm), (Ft6 37 0 q rfl).trans ((Et2 q a b).2.trans (Ft6 65 0 q rfl).symm)⟩
  show G 459 [some (.inr (.inr (1000, 0))), some (.inr (.inr (0, 0))), some (.inr (.inr (40, 0))), some (.inl i)] [.inl x8] 122 t6
  refine px_popi hG dL_law_459 ?_
  refine px_goto hG dL_law_460 (tgt := 1265) (by decide) ?_
  exact kk t6 ⟨Rt6, Kt6, Jt6, Ct6, Et6, Pt6⟩
theorem lw_c11 {sl : Int} {sx : Int → Int} {G : pm_G} (hG : pm_Rules (pm_EL sl sx) G) (hx : ∀ i : Int, -2147483648 ≤ sx i ∧ sx i ≤ 2147483647) {i : Int} (h0 : 0 ≤ i) (h1 : i + 4 < sl) {s0 : pm_H} (LI : pm_lwI s0) (kk : ∀ t : pm_H, pm_lwI t → G 1265 [some (.inr (.inr (1000, 0))), some (.inr (.inr (0, 0))), some (.inr (.inr (40, 0))), some (.inl i)] [] 122 t) : G 463 [some (.inr (.inr (1000, 0))), some (.inr (.inr (0, 0))), some (.inr (.inr (40, 0))), some (.inl i)] [] 122 s0 := by
  obtain ⟨R0, K0, J0, C0, E0, P0⟩ := LI
  refine px_aload_n hG dL_law_463 rfl ?_
  refine px_aload_n hG dL_law_464 rfl ?_
  refine px_iload_n hG dL_law_465 rfl ?_
  refine px_iconst hG dL_law_466 ?_
  refine px_iadd hG dL_law_467 ?_
  refine px_sld hG dL_law_468 ⟨by omega, by show _ < sl; omega⟩ ?_
  show G 469 [some (.inr (.inr (1000, 0))), some (.inr (.inr (0, 0))), some (.inr (.inr (40, 0))), some (.inl i)] [.inl (sx (i + 1)), .inr (.inr (0, 0))] 122 s0
  refine jv1 hG dL_law_469 ct_X10_rows lk_L_61 ⟨rfl, rfl⟩ (by decide) ⟨Nat.le_of_ble_eq_true rfl, Nat.le_of_ble_eq_true rfl, Nat.le_of_ble_eq_true rfl⟩ (Nat.le_of_ble_eq_true rfl) ⟨(sx (i + 1)), rfl, rfl, R0, hx _, K0⟩ (fun r1 t2 p3 => ?_)
  obtain ⟨y4, rfl, rfl⟩ := p3 _ rfl
  show G 472 [some (.inr (.inr (1000, 0))), some (.inr (.inr (0, 0))), some (.inr (.inr (40, 0))), some (.inl i)] [.inr (.inl y4)] 122 s0
  refine px_pop2l hG dL_law_472 ?_
  refine px_aload_n hG dL_law_473 rfl ?_
  refine px_aload_n hG dL_law_474 rfl ?_
  refine px_iload_n hG dL_law_475 rfl ?_
  refine px_iconst hG dL_law_476 ?_
  refine px_iadd hG dL_law_477 ?_
  refine px_sld hG dL_law_478 ⟨by omega, by show _ < sl; omega⟩ ?_
  show G 479 [some (.inr (.inr (1000, 0))), some (.inr (.inr (0, 0))), some (.inr (.inr (40, 0))), some (.inl i)] [.inl (sx (i + 1)), .inr (.inr (40, 0))] 122 s0
  refine jv1 hG dL_law_479 ct_X11_rows lk_L_65 ⟨rfl, rfl⟩ (by decide) ⟨Nat.le_of_ble_eq_true rfl, Nat.le_of_ble_eq_true rfl, Nat.le_of_ble_eq_true rfl⟩ (Nat.le_of_ble_eq_true rfl) ⟨(sx (i + 1)), rfl, rfl, R0, hx _, J0⟩ (fun r5 t6 p7 => ?_)
  obtain ⟨y8, rfl, Rt6, Ft6⟩ := p7 _ rfl
  have Ct6 := pm_CH_eq (fun q => Ft6 46 0 q rfl) C0
  have Kt6 : pm_K1 t6 := pm_K1_c K0 (Ft6 3 0 0 rfl) (Ft6 3 0 1 rfl) (Ft6 3 0 2 rfl) (Ft6 3 0 3 rfl)
  have Jt6 := pm_J2_fr Ft6 rfl J0
  have Pt6 : pm_SP t6 := pm_SP_c P0 (fun r q => Ft6 2 r q rfl) (Ft6 31 0 1 rfl) (fun r q => Ft6 32 r q rfl) (fun r q => Ft6 33 r q rfl)
  have Et6 : pm_LE t6 := fun q a b => ⟨(Ft6 36 0 q rfl).trans ((E0 q a b).1.trans (Ft6 64 0 q rfl).symm), (Ft6 37 0 q rfl).trans ((E0 q a b).2.trans (Ft6 65 0 q rfl).symm)⟩
  show G 482 [some (.inr (.inr (1000, 0))), some (.inr (.inr (0, 0))), some (.inr (.inr (40, 0))), some (.inl i)] [.inr (.inl y8)] 122 t6
  refine px_pop2l hG dL_law_482 ?_
  refine px_goto hG dL_law_483 (tgt := 1265) (by decide) ?_
  exact kk t6 ⟨Rt6, Kt6, Jt6, Ct6, Et6, Pt6⟩
theorem lw_c12 {sl : Int} {sx : Int → Int} {G : pm_G} (hG : pm_Rules (pm_EL sl sx) G) (hx : ∀ i : Int, -2147483648 ≤ sx i ∧ sx i ≤ 2147483647) {i : Int} (h0 : 0 ≤ i) (h1 : i + 4 < sl) {s0 : pm_H} (LI : pm_lwI s0) (kk : ∀ t : pm_H, pm_lwI t → G 1265 [some (.inr (.inr (1000, 0))), some (.inr (.inr (0, 0))), some (.inr (.inr (40, 0))), some (.inl i)] [] 122 t) : G 486 [some (.inr (.inr (1000, 0))), some (.inr (.inr (0, 0))), some (.inr (.inr (40, 0))), some (.inl i)] [] 122 s0 := by
  obtain ⟨R0, K0, J0, C0, E0, P0⟩ := LI
  refine px_aload_n hG dL_law_486 rfl ?_
  refine jv0 hG dL_law_487 ct_X10_rank lk_L_66 ⟨rfl, rfl⟩ (by decide) ⟨Nat.le_of_ble_eq_true rfl, Nat.le_of_ble_eq_true rfl, Nat.le_of_ble_eq_true rfl⟩ (Nat.le_of_ble_eq_true rfl) ⟨rfl, rfl, R0, K0⟩ (fun r1 t2 p3 => ?_)
  obtain ⟨y4, rfl, Rt2, Ft2, bt2⟩ := p3 rfl
  have Ct2 := pm_CH_eq (fun q => Ft2 46 0 q rfl) C0
  have Kt2 : pm_K1 t2 := bt2
  have Jt2 := pm_J2_fr Ft2 rfl J0
  have Pt2 : pm_SP t2 := pm_SP_c P0 (fun r q => Ft2 2 r q rfl) (Ft2 31 0 1 rfl) (fun r q => Ft2 32 r q rfl) (fun r q => Ft2 33 r q rfl)
  have Et2 : pm_LE t2 := fun q a b => ⟨(Ft2 36 0 q rfl).trans ((E0 q a b).1.trans (Ft2 64 0 q rfl).symm), (Ft2 37 0 q rfl).trans ((E0 q a b).2.trans (Ft2 65 0 q rfl).symm)⟩
  show G 490 [some (.inr (.inr (1000, 0))), some (.inr (.inr (0, 0))), some (.inr (.inr (40, 0))), some (.inl i)] [.inr (.inl y4)] 122 t2
  refine px_pop2l hG dL_law_490 ?_
  refine px_aload_n hG dL_law_491 rfl ?_
  refine jv0 hG dL_law_492 ct_X11_rank lk_L_70 ⟨rfl, rfl⟩ (by decide) ⟨Nat.le_of_ble_eq_true rfl, Nat.le_of_ble_eq_true rfl, Nat.le_of_ble_eq_true rfl⟩ (Nat.le_of_ble_eq_true rfl) ⟨rfl, rfl, Rt2, Jt2⟩ (fun r5 t6 p7 => ?_)
  obtain ⟨y8, rfl, Rt6, Ft6⟩ := p7 rfl
  have Ct6 := pm_CH_eq (fun q => Ft6 46 0 q rfl) Ct2
  have Kt6 : pm_K1 t6 := pm_K1_c Kt2 (Ft6 3 0 0 rfl) (Ft6 3 0 1 rfl) (Ft6 3 0 2 rfl) (Ft6 3 0 3 rfl)
  have Jt6 := pm_J2_fr Ft6 rfl Jt2
  have Pt6 : pm_SP t6 := pm_SP_c Pt2 (fun r q => Ft6 2 r q rfl) (Ft6 31 0 1 rfl) (fun r q => Ft6 32 r q rfl) (fun r q => Ft6 33 r q rfl)
  have Et6 : pm_LE t6 := fun q a b => ⟨(Ft6 36 0 q rfl).trans ((Et2 q a b).1.trans (Ft6 64 0 q rfl).symm), (Ft6 37 0 q rfl).trans ((Et2 q a b).2.trans (Ft6 65 0 q rfl).symm)⟩
  show G 495 [some (.inr (.inr (1000, 0))), some (.inr (.inr (0, 0))), some (.inr (.inr (40, 0))), some (.inl i)] [.inr (.inl y8)] 122 t6
  refine px_pop2l hG dL_law_495 ?_
  refine px_goto hG dL_law_496 (tgt := 1265) (by decide) ?_
  exact kk t6 ⟨Rt6, Kt6, Jt6, Ct6, Et6, Pt6⟩
theorem lw_c13 {sl : Int} {sx : Int → Int} {G : pm_G} (hG : pm_Rules (pm_EL sl sx) G) (hx : ∀ i : Int, -2147483648 ≤ sx i ∧ sx i ≤ 2147483647) {i : Int} (h0 : 0 ≤ i) (h1 : i + 4 < sl) {s0 : pm_H} (LI : pm_lwI s0) (kk : ∀ t : pm_H, pm_lwI t → G 1265 [some (.inr (.inr (1000, 0))), some (.inr (.inr (0, 0))), some (.inr (.inr (40, 0))), some (.inl i)] [] 122 t) : G 499 [some (.inr (.inr (1000, 0))), some (.inr (.inr (0, 0))), some (.inr (.inr (40, 0))), some (.inl i)] [] 122 s0 := by
  obtain ⟨R0, K0, J0, C0, E0, P0⟩ := LI
  refine px_aload_n hG dL_law_499 rfl ?_
  refine px_aload_n hG dL_law_500 rfl ?_
  refine px_iload_n hG dL_law_501 rfl ?_
  refine px_iconst hG dL_law_502 ?_
  refine px_iadd hG dL_law_503 ?_
  refine px_sld hG dL_law_504 ⟨by omega, by show _ < sl; omega⟩ ?_
  show G 505 [some (.inr (.inr (1000, 0))), some (.inr (.inr (0, 0))), some (.inr (.inr (40, 0))), some (.inl i)] [.inl (sx (i + 1)), .inr (.inr (0, 0))] 122 s0
  refine px_aload_n hG dL_law_505 rfl ?_
  refine px_iload_n hG dL_law_506 rfl ?_
  refine px_iconst hG dL_law_507 ?_
  refine px_iadd hG dL_law_508 ?_
  refine px_sld hG dL_law_509 ⟨by omega, by show _ < sl; omega⟩ ?_
  show G 510 [some (.inr (.inr (1000, 0))), some (.inr (.inr (0, 0))), some (.inr (.inr (40, 0))), some (.inl i)] [.inl (sx (i + 2)), .inl (sx (i + 1)), .inr (.inr (0, 0))] 122 s0
  refine px_i2l hG dL_law_510 (hx _) ?_
  refine px_bipush hG dL_law_511 (by decide) ?_
  refine px_lshl hG dL_law_513 (fun z1 bz1 => ?_)
  refine px_aload_n hG dL_law_514 rfl ?_
  refine px_iload_n hG dL_law_515 rfl ?_
  refine px_iconst hG dL_law_516 ?_
  refine px_iadd hG dL_law_517 ?_
  refine px_sld hG dL_law_518 ⟨by omega, by show _ < sl; omega⟩ ?_
  show G 519 [some (.inr (.inr (1000, 0))), some (.inr (.inr (0, 0))), some (.inr (.inr (40, 0))), some (.inl i)] [.inl (sx (i + 3)), .inr (.inl z1), .inl (sx (i + 1)), .inr (.inr (0, 0))] 122 s0
  refine px_i2l hG dL_law_519 (hx _) ?_
  refine px_ldc2 hG dL_law_520 cn_L_71 ?_
  show G 523 [some (.inr (.inr (1000, 0))), some (.inr (.inr (0, 0))), some (.inr (.inr (40, 0))), some (.inl i)] [.inr (.inl 4294967295), .inr (.inl (sx (i + 3))), .inr (.inl z1), .inl (sx (i + 1)), .inr (.inr (0, 0))] 122 s0
  refine px_land hG dL_law_523 (fun z2 bz2 => ?_)
  refine px_lor hG dL_law_524 (fun z3 bz3 => ?_)
  refine jv2 hG dL_law_525 ct_X10_unrank lk_L_73 ⟨rfl, rfl⟩ (by decide) ⟨Nat.le_of_ble_eq_true rfl, Nat.le_of_ble_eq_true rfl, Nat.le_of_ble_eq_true rfl⟩ (Nat.le_of_ble_eq_true rfl) ⟨(sx (i + 1)), z3, rfl, rfl, R0, hx _, bz3, K0⟩ (fun r4 t5 p6 => ?_)
  obtain ⟨x7, rfl, Rt5, Ft5, bt5⟩ := p6 _ _ rfl
  have Ct5 := pm_CH_eq (fun q => Ft5 46 0 q rfl) C0
  have Kt5 : pm_K1 t5 := bt5
  have Jt5 := pm_J2_fr Ft5 rfl J0
  have Pt5 : pm_SP t5 := pm_SP_c P0 (fun r q => Ft5 2 r q rfl) (Ft5 31 0 1 rfl) (fun r q => Ft5 32 r q rfl) (fun r q => Ft5 33 r q rfl)
  have Et5 : pm_LE t5 := fun q a b => ⟨(Ft5 36 0 q rfl).trans ((E0 q a b).1.trans (Ft5 64 0 q rfl).symm), (Ft5 37 0 q rfl).trans ((E0 q a b).2.trans (Ft5 65 0 q rfl).symm)⟩
  show G 528 [some (.inr (.inr (1000, 0))), some (.inr (.inr (0, 0))), some (.inr (.inr (40, 0))), some (.inl i)] [.inl x7] 122 t5
  refine px_popi hG dL_law_528 ?_
  refine px_aload_n hG dL_law_529 rfl ?_
  refine px_aload_n hG dL_law_530 rfl ?_
  refine px_iload_n hG dL_law_531 rfl ?_
  refine px_iconst hG dL_law_532 ?_
  refine px_iadd hG dL_law_533 ?_
  refine px_sld hG dL_law_534 ⟨by omega, by show _ < sl; omega⟩ ?_
  show G 535 [some (.inr (.inr (1000, 0))), some (.inr (.inr (0, 0))), some (.inr (.inr (40, 0))), some (.inl i)] [.inl (sx (i + 1)), .inr (.inr (40, 0))] 122 t5
  refine px_aload_n hG dL_law_535 rfl ?_
  refine px_iload_n hG dL_law_536 rfl ?_
  refine px_iconst hG dL_law_537 ?_
  refine px_iadd hG dL_law_538 ?_
  refine px_sld hG dL_law_539 ⟨by omega, by show _ < sl; omega⟩ ?_
  show G 540 [some (.inr (.inr (1000, 0))), some (.inr (.inr (0, 0))), some (.inr (.inr (40, 0))), some (.inl i)] [.inl (sx (i + 2)), .inl (sx (i + 1)), .inr (.inr (40, 0))] 122 t5
  refine px_i2l hG dL_law_540 (hx _) ?_
  refine px_bipush hG dL_law_541 (by decide) ?_
  refine px_lshl hG dL_law_543 (fun z8 bz8 => ?_)
  refine px_aload_n hG dL_law_544 rfl ?_
  refine px_iload_n hG dL_law_545 rfl ?_
  refine px_iconst hG dL_law_546 ?_
  refine px_iadd hG dL_law_547 ?_
  refine px_sld hG dL_law_548 ⟨by omega, by show _ < sl; omega⟩ ?_
  show G 549 [some (.inr (.inr (1000, 0))), some (.inr (.inr (0, 0))), some (.inr (.inr (40, 0))), some (.inl i)] [.inl (sx (i + 3)), .inr (.inl z8), .inl (sx (i + 1)), .inr (.inr (40, 0))] 122 t5
  refine px_i2l hG dL_law_549 (hx _) ?_
  refine px_ldc2 hG dL_law_550 cn_L_71 ?_
  show G 553 [some (.inr (.inr (1000, 0))), some (.inr (.inr (0, 0))), some (.inr (.inr (40, 0))), some (.inl i)] [.inr (.inl 4294967295), .inr (.inl (sx (i + 3))), .inr (.inl z8), .inl (sx (i + 1)), .inr (.inr (40, 0))] 122 t5
  refine px_land hG dL_law_553 (fun z9 bz9 => ?_)
  refine px_lor hG dL_law_554 (fun z10 bz10 => ?_)
  refine jv2 hG dL_law_555 ct_X11_unranke lk_L_77 ⟨rfl, rfl⟩ (by decide) ⟨Nat.le_of_ble_eq_true rfl, Nat.le_of_ble_eq_true rfl, Nat.le_of_ble_eq_true rfl⟩ (Nat.le_of_ble_eq_true rfl) ⟨(sx (i + 1)), z10, rfl, rfl, Rt5, ⟨hx _, bz10, Ct5⟩, Jt5⟩ (fun r11 t12 p13 => ?_)
  obtain ⟨x14, rfl, Rt12, Ft12, bt12⟩ := p13 _ _ rfl
  have Ct12 := pm_CH_eq (fun q => Ft12 46 0 q rfl) Ct5
  have Kt12 : pm_K1 t12 := pm_K1_c Kt5 (Ft12 3 0 0 rfl) (Ft12 3 0 1 rfl) (Ft12 3 0 2 rfl) (Ft12 3 0 3 rfl)
  have Jt12 := bt12
  have Pt12 : pm_SP t12 := pm_SP_c Pt5 (fun r q => Ft12 2 r q rfl) (Ft12 31 0 1 rfl) (fun r q => Ft12 32 r q rfl) (fun r q => Ft12 33 r q rfl)
  have Et12 : pm_LE t12 := fun q a b => ⟨(Ft12 36 0 q rfl).trans ((Et5 q a b).1.trans (Ft12 64 0 q rfl).symm), (Ft12 37 0 q rfl).trans ((Et5 q a b).2.trans (Ft12 65 0 q rfl).symm)⟩
  show G 558 [some (.inr (.inr (1000, 0))), some (.inr (.inr (0, 0))), some (.inr (.inr (40, 0))), some (.inl i)] [.inl x14] 122 t12
  refine px_popi hG dL_law_558 ?_
  refine px_goto hG dL_law_559 (tgt := 1265) (by decide) ?_
  exact kk t12 ⟨Rt12, Kt12, Jt12, Ct12, Et12, Pt12⟩
theorem lw_c14 {sl : Int} {sx : Int → Int} {G : pm_G} (hG : pm_Rules (pm_EL sl sx) G) (hx : ∀ i : Int, -2147483648 ≤ sx i ∧ sx i ≤ 2147483647) {i : Int} (h0 : 0 ≤ i) (h1 : i + 4 < sl) {s0 : pm_H} (LI : pm_lwI s0) (kk : ∀ t : pm_H, pm_lwI t → G 1265 [some (.inr (.inr (1000, 0))), some (.inr (.inr (0, 0))), some (.inr (.inr (40, 0))), some (.inl i)] [] 122 t) : G 562 [some (.inr (.inr (1000, 0))), some (.inr (.inr (0, 0))), some (.inr (.inr (40, 0))), some (.inl i)] [] 122 s0 := by
  obtain ⟨R0, K0, J0, C0, E0, P0⟩ := LI
  refine px_aload_n hG dL_law_562 rfl ?_
  refine jv0 hG dL_law_563 ct_X10_next lk_L_78 ⟨rfl, rfl⟩ (by decide) ⟨Nat.le_of_ble_eq_true rfl, Nat.le_of_ble_eq_true rfl, Nat.le_of_ble_eq_true rfl⟩ (Nat.le_of_ble_eq_true rfl) ⟨rfl, rfl, R0, K0⟩ (fun r1 t2 p3 => ?_)
  obtain ⟨x4, rfl, Rt2, Ft2, bt2⟩ := p3 rfl
  have Ct2 := pm_CH_eq (fun q => Ft2 46 0 q rfl) C0
  have Kt2 : pm_K1 t2 := bt2
  have Jt2 := pm_J2_fr Ft2 rfl J0
  have Pt2 : pm_SP t2 := pm_SP_c P0 (fun r q => Ft2 2 r q rfl) (Ft2 31 0 1 rfl) (fun r q => Ft2 32 r q rfl) (fun r q => Ft2 33 r q rfl)
  have Et2 : pm_LE t2 := fun q a b => ⟨(Ft2 36 0 q rfl).trans ((E0 q a b).1.trans (Ft2 64 0 q rfl).symm), (Ft2 37 0 q rfl).trans ((E0 q a b).2.trans (Ft2 65 0 q rfl).symm)⟩
  show G 566 [some (.inr (.inr (1000, 0))), some (.inr (.inr (0, 0))), some (.inr (.inr (40, 0))), some (.inl i)] [.inl x4] 122 t2
  refine px_popi hG dL_law_566 ?_
  refine px_aload_n hG dL_law_567 rfl ?_
  refine jv0 hG dL_law_568 ct_X11_nexte lk_L_81 ⟨rfl, rfl⟩ (by decide) ⟨Nat.le_of_ble_eq_true rfl, Nat.le_of_ble_eq_true rfl, Nat.le_of_ble_eq_true rfl⟩ (Nat.le_of_ble_eq_true rfl) ⟨rfl, rfl, Rt2, Ct2, Jt2⟩ (fun r5 t6 p7 => ?_)
  obtain ⟨x8, rfl, Rt6, Ft6, bt6⟩ := p7 rfl
  have Ct6 := pm_CH_eq (fun q => Ft6 46 0 q rfl) Ct2
  have Kt6 : pm_K1 t6 := pm_K1_c Kt2 (Ft6 3 0 0 rfl) (Ft6 3 0 1 rfl) (Ft6 3 0 2 rfl) (Ft6 3 0 3 rfl)
  have Jt6 := bt6
  have Pt6 : pm_SP t6 := pm_SP_c Pt2 (fun r q => Ft6 2 r q rfl) (Ft6 31 0 1 rfl) (fun r q => Ft6 32 r q rfl) (fun r q => Ft6 33 r q rfl)
  have Et6 : pm_LE t6 := fun q a b => ⟨(Ft6 36 0 q rfl).trans ((Et2 q a b).1.trans (Ft6 64 0 q rfl).symm), (Ft6 37 0 q rfl).trans ((Et2 q a b).2.trans (Ft6 65 0 q rfl).symm)⟩
  show G 571 [some (.inr (.inr (1000, 0))), some (.inr (.inr (0, 0))), some (.inr (.inr (40, 0))), some (.inl i)] [.inl x8] 122 t6
  refine px_popi hG dL_law_571 ?_
  refine px_goto hG dL_law_572 (tgt := 1265) (by decide) ?_
  exact kk t6 ⟨Rt6, Kt6, Jt6, Ct6, Et6, Pt6⟩
theorem lw_c15 {sl : Int} {sx : Int → Int} {G : pm_G} (hG : pm_Rules (pm_EL sl sx) G) (hx : ∀ i : Int, -2147483648 ≤ sx i ∧ sx i ≤ 2147483647) {i : Int} (h0 : 0 ≤ i) (h1 : i + 4 < sl) {s0 : pm_H} (LI : pm_lwI s0) (kk : ∀ t : pm_H, pm_lwI t → G 1265 [some (.inr (.inr (1000, 0))), some (.inr (.inr (0, 0))), some (.inr (.inr (40, 0))), some (.inl i)] [] 122 t) : G 575 [some (.inr (.inr (1000, 0))), some (.inr (.inr (0, 0))), some (.inr (.inr (40, 0))), some (.inl i)] [] 122 s0 := by
  obtain ⟨R0, K0, J0, C0, E0, P0⟩ := LI
  refine px_aload_n hG dL_law_575 rfl ?_
  refine jv0 hG dL_law_576 ct_X10_like lk_L_82 ⟨rfl, rfl⟩ (by decide) ⟨Nat.le_of_ble_eq_true rfl, Nat.le_of_ble_eq_true rfl, Nat.le_of_ble_eq_true rfl⟩ (Nat.le_of_ble_eq_true rfl) ⟨rfl, rfl, R0, K0⟩ (fun r1 t2 p3 => ?_)
  obtain ⟨y4, rfl, rfl⟩ := p3 rfl
  show G 579 [some (.inr (.inr (1000, 0))), some (.inr (.inr (0, 0))), some (.inr (.inr (40, 0))), some (.inl i)] [.inr (.inl y4)] 122 s0
  refine px_pop2l hG dL_law_579 ?_
  refine px_aload_n hG dL_law_580 rfl ?_
  refine jv0 hG dL_law_581 ct_X11_like lk_L_85 ⟨rfl, rfl⟩ (by decide) ⟨Nat.le_of_ble_eq_true rfl, Nat.le_of_ble_eq_true rfl, Nat.le_of_ble_eq_true rfl⟩ (Nat.le_of_ble_eq_true rfl) ⟨rfl, rfl, R0, J0⟩ (fun r5 t6 p7 => ?_)
  obtain ⟨y8, rfl, Rt6, Ft6⟩ := p7 rfl
  have Ct6 := pm_CH_eq (fun q => Ft6 46 0 q rfl) C0
  have Kt6 : pm_K1 t6 := pm_K1_c K0 (Ft6 3 0 0 rfl) (Ft6 3 0 1 rfl) (Ft6 3 0 2 rfl) (Ft6 3 0 3 rfl)
  have Jt6 := pm_J2_fr Ft6 rfl J0
  have Pt6 : pm_SP t6 := pm_SP_c P0 (fun r q => Ft6 2 r q rfl) (Ft6 31 0 1 rfl) (fun r q => Ft6 32 r q rfl) (fun r q => Ft6 33 r q rfl)
  have Et6 : pm_LE t6 := fun q a b => ⟨(Ft6 36 0 q rfl).trans ((E0 q a b).1.trans (Ft6 64 0 q rfl).symm), (Ft6 37 0 q rfl).trans ((E0 q a b).2.trans (Ft6 65 0 q rfl).symm)⟩
  show G 584 [some (.inr (.inr (1000, 0))), some (.inr (.inr (0, 0))), some (.inr (.inr (40, 0))), some (.inl i)] [.inr (.inl y8)] 122 t6
  refine px_pop2l hG dL_law_584 ?_
  refine px_goto hG dL_law_585 (tgt := 1265) (by decide) ?_
  exact kk t6 ⟨Rt6, Kt6, Jt6, Ct6, Et6, Pt6⟩
theorem lw_c16 {sl : Int} {sx : Int → Int} {G : pm_G} (hG : pm_Rules (pm_EL sl sx) G) (hx : ∀ i : Int, -2147483648 ≤ sx i ∧ sx i ≤ 2147483647) {i : Int} (h0 : 0 ≤ i) (h1 : i + 4 < sl) {s0 : pm_H} (LI : pm_lwI s0) (kk : ∀ t : pm_H, pm_lwI t → G 1265 [some (.inr (.inr (1000, 0))), some (.inr (.inr (0, 0))), some (.inr (.inr (40, 0))), some (.inl i)] [] 122 t) : G 588 [some (.inr (.inr (1000, 0))), some (.inr (.inr (0, 0))), some (.inr (.inr (40, 0))), some (.inl i)] [] 122 s0 := by
  obtain ⟨R0, K0, J0, C0, E0, P0⟩ := LI
  refine px_aload_n hG dL_law_588 rfl ?_
  refine jv0 hG dL_law_589 ct_X10_orders lk_L_86 ⟨rfl, rfl⟩ (by decide) ⟨Nat.le_of_ble_eq_true rfl, Nat.le_of_ble_eq_true rfl, Nat.le_of_ble_eq_true rfl⟩ (Nat.le_of_ble_eq_true rfl) ⟨rfl, rfl, R0, K0⟩ (fun r1 t2 p3 => ?_)
  obtain ⟨y4, rfl, rfl⟩ := p3 rfl
  show G 592 [some (.inr (.inr (1000, 0))), some (.inr (.inr (0, 0))), some (.inr (.inr (40, 0))), some (.inl i)] [.inr (.inl y4)] 122 s0
  refine px_pop2l hG dL_law_592 ?_
  refine px_aload_n hG dL_law_593 rfl ?_
  refine jv0 hG dL_law_594 ct_X11_orders lk_L_89 ⟨rfl, rfl⟩ (by decide) ⟨Nat.le_of_ble_eq_true rfl, Nat.le_of_ble_eq_true rfl, Nat.le_of_ble_eq_true rfl⟩ (Nat.le_of_ble_eq_true rfl) ⟨rfl, rfl, R0, J0⟩ (fun r5 t6 p7 => ?_)
  obtain ⟨y8, rfl, rfl⟩ := p7 rfl
  show G 597 [some (.inr (.inr (1000, 0))), some (.inr (.inr (0, 0))), some (.inr (.inr (40, 0))), some (.inl i)] [.inr (.inl y8)] 122 s0
  refine px_pop2l hG dL_law_597 ?_
  refine px_goto hG dL_law_598 (tgt := 1265) (by decide) ?_
  exact kk s0 ⟨R0, K0, J0, C0, E0, P0⟩
theorem lw_c17 {sl : Int} {sx : Int → Int} {G : pm_G} (hG : pm_Rules (pm_EL sl sx) G) (hx : ∀ i : Int, -2147483648 ≤ sx i ∧ sx i ≤ 2147483647) {i : Int} (h0 : 0 ≤ i) (h1 : i + 4 < sl) {s0 : pm_H} (LI : pm_lwI s0) (kk : ∀ t : pm_H, pm_lwI t → G 1265 [some (.inr (.inr (1000, 0))), some (.inr (.inr (0, 0))), some (.inr (.inr (40, 0))), some (.inl i)] [] 122 t) : G 601 [some (.inr (.inr (1000, 0))), some (.inr (.inr (0, 0))), some (.inr (.inr (40, 0))), some (.inl i)] [] 122 s0 := by
  obtain ⟨R0, K0, J0, C0, E0, P0⟩ := LI
  refine px_aload_n hG dL_law_601 rfl ?_
  refine jv0 hG dL_law_602 ct_X10_rise lk_L_90 ⟨rfl, rfl⟩ (by decide) ⟨Nat.le_of_ble_eq_true rfl, Nat.le_of_ble_eq_true rfl, Nat.le_of_ble_eq_true rfl⟩ (Nat.le_of_ble_eq_true rfl) ⟨rfl, rfl, R0, K0⟩ (fun r1 t2 p3 => ?_)
  obtain ⟨x4, rfl, Rt2, Ft2, bt2⟩ := p3 rfl
  have Ct2 := pm_CH_eq (fun q => Ft2 46 0 q rfl) C0
  have Kt2 : pm_K1 t2 := bt2
  have Jt2 := pm_J2_fr Ft2 rfl J0
  have Pt2 : pm_SP t2 := pm_SP_c P0 (fun r q => Ft2 2 r q rfl) (Ft2 31 0 1 rfl) (fun r q => Ft2 32 r q rfl) (fun r q => Ft2 33 r q rfl)
  have Et2 : pm_LE t2 := fun q a b => ⟨(Ft2 36 0 q rfl).trans ((E0 q a b).1.trans (Ft2 64 0 q rfl).symm), (Ft2 37 0 q rfl).trans ((E0 q a b).2.trans (Ft2 65 0 q rfl).symm)⟩
  show G 605 [some (.inr (.inr (1000, 0))), some (.inr (.inr (0, 0))), some (.inr (.inr (40, 0))), some (.inl i)] [.inl x4] 122 t2
  refine px_popi hG dL_law_605 ?_
  refine px_aload_n hG dL_law_606 rfl ?_
  refine jv0 hG dL_law_607 ct_X11_rise lk_L_93 ⟨rfl, rfl⟩ (by decide) ⟨Nat.le_of_ble_eq_true rfl, Nat.le_of_ble_eq_true rfl, Nat.le_of_ble_eq_true rfl⟩ (Nat.le_of_ble_eq_true rfl) ⟨rfl, rfl, Rt2, Jt2⟩ (fun r5 t6 p7 => ?_)
  obtain ⟨x8, rfl, Rt6, Ft6, bt6⟩ := p7 rfl
  have Ct6 := pm_CH_eq (fun q => Ft6 46 0 q rfl) Ct2
  have Kt6 : pm_K1 t6 := pm_K1_c Kt2 (Ft6 3 0 0 rfl) (Ft6 3 0 1 rfl) (Ft6 3 0 2 rfl) (Ft6 3 0 3 rfl)
  have Jt6 := bt6
  have Pt6 : pm_SP t6 := pm_SP_c Pt2 (fun r q => Ft6 2 r q rfl) (Ft6 31 0 1 rfl) (fun r q => Ft6 32 r q rfl) (fun r q => Ft6 33 r q rfl)
  have Et6 : pm_LE t6 := fun q a b => ⟨(Ft6 36 0 q rfl).trans ((Et2 q a b).1.trans (Ft6 64 0 q rfl).symm), (Ft6 37 0 q rfl).trans ((Et2 q a b).2.trans (Ft6 65 0 q rfl).symm)⟩
  show G 610 [some (.inr (.inr (1000, 0))), some (.inr (.inr (0, 0))), some (.inr (.inr (40, 0))), some (.inl i)] [.inl x8] 122 t6
  refine px_popi hG dL_law_610 ?_
  refine px_goto hG dL_law_611 (tgt := 1265) (by decide) ?_
  exact kk t6 ⟨Rt6, Kt6, Jt6, Ct6, Et6, Pt6⟩
theorem lw_c18 {sl : Int} {sx : Int → Int} {G : pm_G} (hG : pm_Rules (pm_EL sl sx) G) (hx : ∀ i : Int, -2147483648 ≤ sx i ∧ sx i ≤ 2147483647) {i : Int} (h0 : 0 ≤ i) (h1 : i + 4 < sl) {s0 : pm_H} (LI : pm_lwI s0) (kk : ∀ t : pm_H, pm_lwI t → G 1265 [some (.inr (.inr (1000, 0))), some (.inr (.inr (0, 0))), some (.inr (.inr (40, 0))), some (.inl i)] [] 122 t) : G 614 [some (.inr (.inr (1000, 0))), some (.inr (.inr (0, 0))), some (.inr (.inr (40, 0))), some (.inl i)] [] 122 s0 := by
  obtain ⟨R0, K0, J0, C0, E0, P0⟩ := LI
  refine px_aload_n hG dL_law_614 rfl ?_
  refine px_aload_n hG dL_law_615 rfl ?_
  refine px_iload_n hG dL_law_616 rfl ?_
  refine px_iconst hG dL_law_617 ?_
  refine px_iadd hG dL_law_618 ?_
  refine px_sld hG dL_law_619 ⟨by omega, by show _ < sl; omega⟩ ?_
  show G 620 [some (.inr (.inr (1000, 0))), some (.inr (.inr (0, 0))), some (.inr (.inr (40, 0))), some (.inl i)] [.inl (sx (i + 1)), .inr (.inr (0, 0))] 122 s0
  refine jv1 hG dL_law_620 ct_X10_risings lk_L_94 ⟨rfl, rfl⟩ (by decide) ⟨Nat.le_of_ble_eq_true rfl, Nat.le_of_ble_eq_true rfl, Nat.le_of_ble_eq_true rfl⟩ (Nat.le_of_ble_eq_true rfl) ⟨(sx (i + 1)), rfl, rfl, R0, hx _, K0⟩ (fun r1 t2 p3 => ?_)
  obtain ⟨y4, rfl, Rt2, Ft2, bt2⟩ := p3 _ rfl
  have Ct2 := pm_CH_eq (fun q => Ft2 46 0 q rfl) C0
  have Kt2 : pm_K1 t2 := bt2
  have Jt2 := pm_J2_fr Ft2 rfl J0
  have Pt2 : pm_SP t2 := pm_SP_c P0 (fun r q => Ft2 2 r q rfl) (Ft2 31 0 1 rfl) (fun r q => Ft2 32 r q rfl) (fun r q => Ft2 33 r q rfl)
  have Et2 : pm_LE t2 := fun q a b => ⟨(Ft2 36 0 q rfl).trans ((E0 q a b).1.trans (Ft2 64 0 q rfl).symm), (Ft2 37 0 q rfl).trans ((E0 q a b).2.trans (Ft2 65 0 q rfl).symm)⟩
  show G 623 [some (.inr (.inr (1000, 0))), some (.inr (.inr (0, 0))), some (.inr (.inr (40, 0))), some (.inl i)] [.inr (.inl y4)] 122 t2
  refine px_pop2l hG dL_law_623 ?_
  refine px_aload_n hG dL_law_624 rfl ?_
  refine px_aload_n hG dL_law_625 rfl ?_
  refine px_iload_n hG dL_law_626 rfl ?_
  refine px_iconst hG dL_law_627 ?_
  refine px_iadd hG dL_law_628 ?_
  refine px_sld hG dL_law_629 ⟨by omega, by show _ < sl; omega⟩ ?_
  show G 630 [some (.inr (.inr (1000, 0))), some (.inr (.inr (0, 0))), some (.inr (.inr (40, 0))), some (.inl i)] [.inl (sx (i + 1)), .inr (.inr (40, 0))] 122 t2
  refine jv1 hG dL_law_630 ct_X11_risings lk_L_97 ⟨rfl, rfl⟩ (by decide) ⟨Nat.le_of_ble_eq_true rfl, Nat.le_of_ble_eq_true rfl, Nat.le_of_ble_eq_true rfl⟩ (Nat.le_of_ble_eq_true rfl) ⟨(sx (i + 1)), rfl, rfl, Rt2, hx _, Jt2⟩ (fun r5 t6 p7 => ?_)
  obtain ⟨y8, rfl, Rt6, Ft6⟩ := p7 _ rfl
  have Ct6 := pm_CH_eq (fun q => Ft6 46 0 q rfl) Ct2
  have Kt6 : pm_K1 t6 := pm_K1_c Kt2 (Ft6 3 0 0 rfl) (Ft6 3 0 1 rfl) (Ft6 3 0 2 rfl) (Ft6 3 0 3 rfl)
  have Jt6 := pm_J2_fr Ft6 rfl Jt2
  have Pt6 : pm_SP t6 := pm_SP_c Pt2 (fun r q => Ft6 2 r q rfl) (Ft6 31 0 1 rfl) (fun r q => Ft6 32 r q rfl) (fun r q => Ft6 33 r q rfl)
  have Et6 : pm_LE t6 := fun q a b => ⟨(Ft6 36 0 q rfl).trans ((Et2 q a b).1.trans (Ft6 64 0 q rfl).symm), (Ft6 37 0 q rfl).trans ((Et2 q a b).2.trans (Ft6 65 0 q rfl).symm)⟩
  show G 633 [some (.inr (.inr (1000, 0))), some (.inr (.inr (0, 0))), some (.inr (.inr (40, 0))), some (.inl i)] [.inr (.inl y8)] 122 t6
  refine px_pop2l hG dL_law_633 ?_
  refine px_goto hG dL_law_634 (tgt := 1265) (by decide) ?_
  exact kk t6 ⟨Rt6, Kt6, Jt6, Ct6, Et6, Pt6⟩
theorem lw_c19 {sl : Int} {sx : Int → Int} {G : pm_G} (hG : pm_Rules (pm_EL sl sx) G) (hx : ∀ i : Int, -2147483648 ≤ sx i ∧ sx i ≤ 2147483647) {i : Int} (h0 : 0 ≤ i) (h1 : i + 4 < sl) {s0 : pm_H} (LI : pm_lwI s0) (kk : ∀ t : pm_H, pm_lwI t → G 1265 [some (.inr (.inr (1000, 0))), some (.inr (.inr (0, 0))), some (.inr (.inr (40, 0))), some (.inl i)] [] 122 t) : G 637 [some (.inr (.inr (1000, 0))), some (.inr (.inr (0, 0))), some (.inr (.inr (40, 0))), some (.inl i)] [] 122 s0 := by
  obtain ⟨R0, K0, J0, C0, E0, P0⟩ := LI
  refine px_aload_n hG dL_law_637 rfl ?_
  refine jv0 hG dL_law_638 ct_X10_riseRank lk_L_98 ⟨rfl, rfl⟩ (by decide) ⟨Nat.le_of_ble_eq_true rfl, Nat.le_of_ble_eq_true rfl, Nat.le_of_ble_eq_true rfl⟩ (Nat.le_of_ble_eq_true rfl) ⟨rfl, rfl, R0, K0⟩ (fun r1 t2 p3 => ?_)
  obtain ⟨y4, rfl, Rt2, Ft2, bt2⟩ := p3 rfl
  have Ct2 := pm_CH_eq (fun q => Ft2 46 0 q rfl) C0
  have Kt2 : pm_K1 t2 := bt2
  have Jt2 := pm_J2_fr Ft2 rfl J0
  have Pt2 : pm_SP t2 := pm_SP_c P0 (fun r q => Ft2 2 r q rfl) (Ft2 31 0 1 rfl) (fun r q => Ft2 32 r q rfl) (fun r q => Ft2 33 r q rfl)
  have Et2 : pm_LE t2 := fun q a b => ⟨(Ft2 36 0 q rfl).trans ((E0 q a b).1.trans (Ft2 64 0 q rfl).symm), (Ft2 37 0 q rfl).trans ((E0 q a b).2.trans (Ft2 65 0 q rfl).symm)⟩
  show G 641 [some (.inr (.inr (1000, 0))), some (.inr (.inr (0, 0))), some (.inr (.inr (40, 0))), some (.inl i)] [.inr (.inl y4)] 122 t2
  refine px_pop2l hG dL_law_641 ?_
  refine px_aload_n hG dL_law_642 rfl ?_
  refine jv0 hG dL_law_643 ct_X11_riseRank lk_L_101 ⟨rfl, rfl⟩ (by decide) ⟨Nat.le_of_ble_eq_true rfl, Nat.le_of_ble_eq_true rfl, Nat.le_of_ble_eq_true rfl⟩ (Nat.le_of_ble_eq_true rfl) ⟨rfl, rfl, Rt2, Jt2⟩ (fun r5 t6 p7 => ?_)
  obtain ⟨y8, rfl, Rt6, Ft6⟩ := p7 rfl
  have Ct6 := pm_CH_eq (fun q => Ft6 46 0 q rfl) Ct2
  have Kt6 : pm_K1 t6 := pm_K1_c Kt2 (Ft6 3 0 0 rfl) (Ft6 3 0 1 rfl) (Ft6 3 0 2 rfl) (Ft6 3 0 3 rfl)
  have Jt6 := pm_J2_fr Ft6 rfl Jt2
  have Pt6 : pm_SP t6 := pm_SP_c Pt2 (fun r q => Ft6 2 r q rfl) (Ft6 31 0 1 rfl) (fun r q => Ft6 32 r q rfl) (fun r q => Ft6 33 r q rfl)
  have Et6 : pm_LE t6 := fun q a b => ⟨(Ft6 36 0 q rfl).trans ((Et2 q a b).1.trans (Ft6 64 0 q rfl).symm), (Ft6 37 0 q rfl).trans ((Et2 q a b).2.trans (Ft6 65 0 q rfl).symm)⟩
  show G 646 [some (.inr (.inr (1000, 0))), some (.inr (.inr (0, 0))), some (.inr (.inr (40, 0))), some (.inl i)] [.inr (.inl y8)] 122 t6
  refine px_pop2l hG dL_law_646 ?_
  refine px_goto hG dL_law_647 (tgt := 1265) (by decide) ?_
  exact kk t6 ⟨Rt6, Kt6, Jt6, Ct6, Et6, Pt6⟩
theorem lw_c20 {sl : Int} {sx : Int → Int} {G : pm_G} (hG : pm_Rules (pm_EL sl sx) G) (hx : ∀ i : Int, -2147483648 ≤ sx i ∧ sx i ≤ 2147483647) {i : Int} (h0 : 0 ≤ i) (h1 : i + 4 < sl) {s0 : pm_H} (LI : pm_lwI s0) (kk : ∀ t : pm_H, pm_lwI t → G 1265 [some (.inr (.inr (1000, 0))), some (.inr (.inr (0, 0))), some (.inr (.inr (40, 0))), some (.inl i)] [] 122 t) : G 650 [some (.inr (.inr (1000, 0))), some (.inr (.inr (0, 0))), some (.inr (.inr (40, 0))), some (.inl i)] [] 122 s0 := by
  obtain ⟨R0, K0, J0, C0, E0, P0⟩ := LI
  refine px_aload_n hG dL_law_650 rfl ?_
  refine px_aload_n hG dL_law_651 rfl ?_
  refine px_iload_n hG dL_law_652 rfl ?_
  refine px_iconst hG dL_law_653 ?_
  refine px_iadd hG dL_law_654 ?_
  refine px_sld hG dL_law_655 ⟨by omega, by show _ < sl; omega⟩ ?_
  show G 656 [some (.inr (.inr (1000, 0))), some (.inr (.inr (0, 0))), some (.inr (.inr (40, 0))), some (.inl i)] [.inl (sx (i + 1)), .inr (.inr (0, 0))] 122 s0
  refine px_aload_n hG dL_law_656 rfl ?_
  refine px_iload_n hG dL_law_657 rfl ?_
  refine px_iconst hG dL_law_658 ?_
  refine px_iadd hG dL_law_659 ?_
  refine px_sld hG dL_law_660 ⟨by omega, by show _ < sl; omega⟩ ?_
  show G 661 [some (.inr (.inr (1000, 0))), some (.inr (.inr (0, 0))), some (.inr (.inr (40, 0))), some (.inl i)] [.inl (sx (i + 2)), .inl (sx (i + 1)), .inr (.inr (0, 0))] 122 s0
  refine px_i2l hG dL_law_661 (hx _) ?_
  refine px_bipush hG dL_law_662 (by decide) ?_
  refine px_lshl hG dL_law_664 (fun z1 bz1 => ?_)
  refine px_aload_n hG dL_law_665 rfl ?_
  refine px_iload_n hG dL_law_666 rfl ?_
  refine px_iconst hG dL_law_667 ?_
  refine px_iadd hG dL_law_668 ?_
  refine px_sld hG dL_law_669 ⟨by omega, by show _ < sl; omega⟩ ?_
  show G 670 [some (.inr (.inr (1000, 0))), some (.inr (.inr (0, 0))), some (.inr (.inr (40, 0))), some (.inl i)] [.inl (sx (i + 3)), .inr (.inl z1), .inl (sx (i + 1)), .inr (.inr (0, 0))] 122 s0
  refine px_i2l hG dL_law_670 (hx _) ?_
  refine px_ldc2 hG dL_law_671 cn_L_71 ?_
  show G 674 [some (.inr (.inr (1000, 0))), some (.inr (.inr (0, 0))), some (.inr (.inr (40, 0))), some (.inl i)] [.inr (.inl 4294967295), .inr (.inl (sx (i + 3))), .inr (.inl z1), .inl (sx (i + 1)), .inr (.inr (0, 0))] 122 s0
  refine px_land hG dL_law_674 (fun z2 bz2 => ?_)
  refine px_lor hG dL_law_675 (fun z3 bz3 => ?_)
  refine jv2 hG dL_law_676 ct_X10_riseUnrank lk_L_102 ⟨rfl, rfl⟩ (by decide) ⟨Nat.le_of_ble_eq_true rfl, Nat.le_of_ble_eq_true rfl, Nat.le_of_ble_eq_true rfl⟩ (Nat.le_of_ble_eq_true rfl) ⟨(sx (i + 1)), z3, rfl, rfl, R0, hx _, bz3, K0⟩ (fun r4 t5 p6 => ?_)
  obtain ⟨x7, rfl, Rt5, Ft5, bt5⟩ := p6 _ _ rfl
  have Ct5 := pm_CH_eq (fun q => Ft5 46 0 q rfl) C0
  have Kt5 : pm_K1 t5 := bt5
  have Jt5 := pm_J2_fr Ft5 rfl J0
  have Pt5 : pm_SP t5 := pm_SP_c P0 (fun r q => Ft5 2 r q rfl) (Ft5 31 0 1 rfl) (fun r q => Ft5 32 r q rfl) (fun r q => Ft5 33 r q rfl)
  have Et5 : pm_LE t5 := fun q a b => ⟨(Ft5 36 0 q rfl).trans ((E0 q a b).1.trans (Ft5 64 0 q rfl).symm), (Ft5 37 0 q rfl).trans ((E0 q a b).2.trans (Ft5 65 0 q rfl).symm)⟩
  show G 679 [some (.inr (.inr (1000, 0))), some (.inr (.inr (0, 0))), some (.inr (.inr (40, 0))), some (.inl i)] [.inl x7] 122 t5
  refine px_popi hG dL_law_679 ?_
  refine px_aload_n hG dL_law_680 rfl ?_
  refine px_aload_n hG dL_law_681 rfl ?_
  refine px_iload_n hG dL_law_682 rfl ?_
  refine px_iconst hG dL_law_683 ?_
  refine px_iadd hG dL_law_684 ?_
  refine px_sld hG dL_law_685 ⟨by omega, by show _ < sl; omega⟩ ?_
  show G 686 [some (.inr (.inr (1000, 0))), some (.inr (.inr (0, 0))), some (.inr (.inr (40, 0))), some (.inl i)] [.inl (sx (i + 1)), .inr (.inr (40, 0))] 122 t5
  refine px_aload_n hG dL_law_686 rfl ?_
  refine px_iload_n hG dL_law_687 rfl ?_
  refine px_iconst hG dL_law_688 ?_
  refine px_iadd hG dL_law_689 ?_
  refine px_sld hG dL_law_690 ⟨by omega, by show _ < sl; omega⟩ ?_
  show G 691 [some (.inr (.inr (1000, 0))), some (.inr (.inr (0, 0))), some (.inr (.inr (40, 0))), some (.inl i)] [.inl (sx (i + 2)), .inl (sx (i + 1)), .inr (.inr (40, 0))] 122 t5
  refine px_i2l hG dL_law_691 (hx _) ?_
  refine px_bipush hG dL_law_692 (by decide) ?_
  refine px_lshl hG dL_law_694 (fun z8 bz8 => ?_)
  refine px_aload_n hG dL_law_695 rfl ?_
  refine px_iload_n hG dL_law_696 rfl ?_
  refine px_iconst hG dL_law_697 ?_
  refine px_iadd hG dL_law_698 ?_
  refine px_sld hG dL_law_699 ⟨by omega, by show _ < sl; omega⟩ ?_
  show G 700 [some (.inr (.inr (1000, 0))), some (.inr (.inr (0, 0))), some (.inr (.inr (40, 0))), some (.inl i)] [.inl (sx (i + 3)), .inr (.inl z8), .inl (sx (i + 1)), .inr (.inr (40, 0))] 122 t5
  refine px_i2l hG dL_law_700 (hx _) ?_
  refine px_ldc2 hG dL_law_701 cn_L_71 ?_
  show G 704 [some (.inr (.inr (1000, 0))), some (.inr (.inr (0, 0))), some (.inr (.inr (40, 0))), some (.inl i)] [.inr (.inl 4294967295), .inr (.inl (sx (i + 3))), .inr (.inl z8), .inl (sx (i + 1)), .inr (.inr (40, 0))] 122 t5
  refine px_land hG dL_law_704 (fun z9 bz9 => ?_)
  refine px_lor hG dL_law_705 (fun z10 bz10 => ?_)
  refine jv2 hG dL_law_706 ct_X11_riseUnrank lk_L_105 ⟨rfl, rfl⟩ (by decide) ⟨Nat.le_of_ble_eq_true rfl, Nat.le_of_ble_eq_true rfl, Nat.le_of_ble_eq_true rfl⟩ (Nat.le_of_ble_eq_true rfl) ⟨(sx (i + 1)), z10, rfl, rfl, Rt5, ⟨hx _, bz10⟩, Jt5⟩ (fun r11 t12 p13 => ?_)
  obtain ⟨x14, rfl, Rt12, Ft12, bt12⟩ := p13 _ _ rfl
  have Ct12 := pm_CH_eq (fun q => Ft12 46 0 q rfl) Ct5
  have Kt12 : pm_K1 t12 := pm_K1_c Kt5 (Ft12 3 0 0 rfl) (Ft12 3 0 1 rfl) (Ft12 3 0 2 rfl) (Ft12 3 0 3 rfl)
  have Jt12 := bt12
  have Pt12 : pm_SP t12 := pm_SP_c Pt5 (fun r q => Ft12 2 r q rfl) (Ft12 31 0 1 rfl) (fun r q => Ft12 32 r q rfl) (fun r q => Ft12 33 r q rfl)
  have Et12 : pm_LE t12 := fun q a b => ⟨(Ft12 36 0 q rfl).trans ((Et5 q a b).1.trans (Ft12 64 0 q rfl).symm), (Ft12 37 0 q rfl).trans ((Et5 q a b).2.trans (Ft12 65 0 q rfl).symm)⟩
  show G 709 [some (.inr (.inr (1000, 0))), some (.inr (.inr (0, 0))), some (.inr (.inr (40, 0))), some (.inl i)] [.inl x14] 122 t12
  refine px_popi hG dL_law_709 ?_
  refine px_goto hG dL_law_710 (tgt := 1265) (by decide) ?_
  exact kk t12 ⟨Rt12, Kt12, Jt12, Ct12, Et12, Pt12⟩
theorem lw_c21 {sl : Int} {sx : Int → Int} {G : pm_G} (hG : pm_Rules (pm_EL sl sx) G) (hx : ∀ i : Int, -2147483648 ≤ sx i ∧ sx i ≤ 2147483647) {i : Int} (h0 : 0 ≤ i) (h1 : i + 4 < sl) {s0 : pm_H} (LI : pm_lwI s0) (kk : ∀ t : pm_H, pm_lwI t → G 1265 [some (.inr (.inr (1000, 0))), some (.inr (.inr (0, 0))), some (.inr (.inr (40, 0))), some (.inl i)] [] 122 t) : G 713 [some (.inr (.inr (1000, 0))), some (.inr (.inr (0, 0))), some (.inr (.inr (40, 0))), some (.inl i)] [] 122 s0 := by
  obtain ⟨R0, K0, J0, C0, E0, P0⟩ := LI
  refine px_aload_n hG dL_law_713 rfl ?_
  refine jv0 hG dL_law_714 ct_X10_cuts lk_L_106 ⟨rfl, rfl⟩ (by decide) ⟨Nat.le_of_ble_eq_true rfl, Nat.le_of_ble_eq_true rfl, Nat.le_of_ble_eq_true rfl⟩ (Nat.le_of_ble_eq_true rfl) ⟨rfl, rfl, R0, K0⟩ (fun r1 t2 p3 => ?_)
  obtain ⟨x4, rfl, rfl⟩ := p3 rfl
  show G 717 [some (.inr (.inr (1000, 0))), some (.inr (.inr (0, 0))), some (.inr (.inr (40, 0))), some (.inl i)] [.inl x4] 122 s0
  refine px_popi hG dL_law_717 ?_
  refine px_aload_n hG dL_law_718 rfl ?_
  refine jv0 hG dL_law_719 ct_X11_cuts lk_L_109 ⟨rfl, rfl⟩ (by decide) ⟨Nat.le_of_ble_eq_true rfl, Nat.le_of_ble_eq_true rfl, Nat.le_of_ble_eq_true rfl⟩ (Nat.le_of_ble_eq_true rfl) ⟨rfl, rfl, R0, J0⟩ (fun r5 t6 p7 => ?_)
  obtain ⟨x8, rfl, Rt6, Ft6⟩ := p7 rfl
  have Ct6 := pm_CH_eq (fun q => Ft6 46 0 q rfl) C0
  have Kt6 : pm_K1 t6 := pm_K1_c K0 (Ft6 3 0 0 rfl) (Ft6 3 0 1 rfl) (Ft6 3 0 2 rfl) (Ft6 3 0 3 rfl)
  have Jt6 := pm_J2_fr Ft6 rfl J0
  have Pt6 : pm_SP t6 := pm_SP_c P0 (fun r q => Ft6 2 r q rfl) (Ft6 31 0 1 rfl) (fun r q => Ft6 32 r q rfl) (fun r q => Ft6 33 r q rfl)
  have Et6 : pm_LE t6 := fun q a b => ⟨(Ft6 36 0 q rfl).trans ((E0 q a b).1.trans (Ft6 64 0 q rfl).symm), (Ft6 37 0 q rfl).trans ((E0 q a b).2.trans (Ft6 65 0 q rfl).symm)⟩
  show G 722 [some (.inr (.inr (1000, 0))), some (.inr (.inr (0, 0))), some (.inr (.inr (40, 0))), some (.inl i)] [.inl x8] 122 t6
  refine px_popi hG dL_law_722 ?_
  refine px_goto hG dL_law_723 (tgt := 1265) (by decide) ?_
  exact kk t6 ⟨Rt6, Kt6, Jt6, Ct6, Et6, Pt6⟩
theorem lw_c22 {sl : Int} {sx : Int → Int} {G : pm_G} (hG : pm_Rules (pm_EL sl sx) G) (hx : ∀ i : Int, -2147483648 ≤ sx i ∧ sx i ≤ 2147483647) {i : Int} (h0 : 0 ≤ i) (h1 : i + 4 < sl) {s0 : pm_H} (LI : pm_lwI s0) (kk : ∀ t : pm_H, pm_lwI t → G 1265 [some (.inr (.inr (1000, 0))), some (.inr (.inr (0, 0))), some (.inr (.inr (40, 0))), some (.inl i)] [] 122 t) : G 726 [some (.inr (.inr (1000, 0))), some (.inr (.inr (0, 0))), some (.inr (.inr (40, 0))), some (.inl i)] [] 122 s0 := by
  obtain ⟨R0, K0, J0, C0, E0, P0⟩ := LI
  refine px_aload_n hG dL_law_726 rfl ?_
  refine jv0 hG dL_law_727 ct_X10_primes lk_L_110 ⟨rfl, rfl⟩ (by decide) ⟨Nat.le_of_ble_eq_true rfl, Nat.le_of_ble_eq_true rfl, Nat.le_of_ble_eq_true rfl⟩ (Nat.le_of_ble_eq_true rfl) ⟨rfl, rfl, R0, K0⟩ (fun r1 t2 p3 => ?_)
  obtain ⟨y4, rfl, rfl⟩ := p3 rfl
  show G 730 [some (.inr (.inr (1000, 0))), some (.inr (.inr (0, 0))), some (.inr (.inr (40, 0))), some (.inl i)] [.inr (.inl y4)] 122 s0
  refine px_pop2l hG dL_law_730 ?_
  refine px_aload_n hG dL_law_731 rfl ?_
  refine jv0 hG dL_law_732 ct_X11_primes lk_L_113 ⟨rfl, rfl⟩ (by decide) ⟨Nat.le_of_ble_eq_true rfl, Nat.le_of_ble_eq_true rfl, Nat.le_of_ble_eq_true rfl⟩ (Nat.le_of_ble_eq_true rfl) ⟨rfl, rfl, R0, J0⟩ (fun r5 t6 p7 => ?_)
  obtain ⟨y8, rfl, rfl⟩ := p7 rfl
  show G 735 [some (.inr (.inr (1000, 0))), some (.inr (.inr (0, 0))), some (.inr (.inr (40, 0))), some (.inl i)] [.inr (.inl y8)] 122 s0
  refine px_pop2l hG dL_law_735 ?_
  refine px_goto hG dL_law_736 (tgt := 1265) (by decide) ?_
  exact kk s0 ⟨R0, K0, J0, C0, E0, P0⟩
theorem lw_c23 {sl : Int} {sx : Int → Int} {G : pm_G} (hG : pm_Rules (pm_EL sl sx) G) (hx : ∀ i : Int, -2147483648 ≤ sx i ∧ sx i ≤ 2147483647) {i : Int} (h0 : 0 ≤ i) (h1 : i + 4 < sl) {s0 : pm_H} (LI : pm_lwI s0) (kk : ∀ t : pm_H, pm_lwI t → G 1265 [some (.inr (.inr (1000, 0))), some (.inr (.inr (0, 0))), some (.inr (.inr (40, 0))), some (.inl i)] [] 122 t) : G 739 [some (.inr (.inr (1000, 0))), some (.inr (.inr (0, 0))), some (.inr (.inr (40, 0))), some (.inl i)] [] 122 s0 := by
  obtain ⟨R0, K0, J0, C0, E0, P0⟩ := LI
  refine px_aload_n hG dL_law_739 rfl ?_
  refine jv0 hG dL_law_740 ct_X10_mend lk_L_114 ⟨rfl, rfl⟩ (by decide) ⟨Nat.le_of_ble_eq_true rfl, Nat.le_of_ble_eq_true rfl, Nat.le_of_ble_eq_true rfl⟩ (Nat.le_of_ble_eq_true rfl) ⟨rfl, rfl, R0, K0⟩ (fun r1 t2 p3 => ?_)
  obtain ⟨x4, rfl, Rt2, Ft2, bt2⟩ := p3 rfl
  have Ct2 := pm_CH_eq (fun q => Ft2 46 0 q rfl) C0
  have Kt2 : pm_K1 t2 := bt2
  have Jt2 := pm_J2_fr Ft2 rfl J0
  have Pt2 : pm_SP t2 := pm_SP_c P0 (fun r q => Ft2 2 r q rfl) (Ft2 31 0 1 rfl) (fun r q => Ft2 32 r q rfl) (fun r q => Ft2 33 r q rfl)
  have Et2 : pm_LE t2 := fun q a b => ⟨(Ft2 36 0 q rfl).trans ((E0 q a b).1.trans (Ft2 64 0 q rfl).symm), (Ft2 37 0 q rfl).trans ((E0 q a b).2.trans (Ft2 65 0 q rfl).symm)⟩
  show G 743 [some (.inr (.inr (1000, 0))), some (.inr (.inr (0, 0))), some (.inr (.inr (40, 0))), some (.inl i)] [.inl x4] 122 t2
  refine px_popi hG dL_law_743 ?_
  refine px_aload_n hG dL_law_744 rfl ?_
  refine jv0 hG dL_law_745 ct_X11_mend lk_L_117 ⟨rfl, rfl⟩ (by decide) ⟨Nat.le_of_ble_eq_true rfl, Nat.le_of_ble_eq_true rfl, Nat.le_of_ble_eq_true rfl⟩ (Nat.le_of_ble_eq_true rfl) ⟨rfl, rfl, Rt2, Jt2⟩ (fun r5 t6 p7 => ?_)
  obtain ⟨x8, rfl, Rt6, Ft6, bt6⟩ := p7 rfl
  have Ct6 := pm_CH_eq (fun q => Ft6 46 0 q rfl) Ct2
  have Kt6 : pm_K1 t6 := pm_K1_c Kt2 (Ft6 3 0 0 rfl) (Ft6 3 0 1 rfl) (Ft6 3 0 2 rfl) (Ft6 3 0 3 rfl)
  have Jt6 := bt6
  have Pt6 : pm_SP t6 := pm_SP_c Pt2 (fun r q => Ft6 2 r q rfl) (Ft6 31 0 1 rfl) (fun r q => Ft6 32 r q rfl) (fun r q => Ft6 33 r q rfl)
  have Et6 : pm_LE t6 := fun q a b => ⟨(Ft6 36 0 q rfl).trans ((Et2 q a b).1.trans (Ft6 64 0 q rfl).symm), (Ft6 37 0 q rfl).trans ((Et2 q a b).2.trans (Ft6 65 0 q rfl).symm)⟩
  show G 748 [some (.inr (.inr (1000, 0))), some (.inr (.inr (0, 0))), some (.inr (.inr (40, 0))), some (.inl i)] [.inl x8] 122 t6
  refine px_popi hG dL_law_748 ?_
  refine px_goto hG dL_law_749 (tgt := 1265) (by decide) ?_
  exact kk t6 ⟨Rt6, Kt6, Jt6, Ct6, Et6, Pt6⟩
theorem lw_c24 {sl : Int} {sx : Int → Int} {G : pm_G} (hG : pm_Rules (pm_EL sl sx) G) (hx : ∀ i : Int, -2147483648 ≤ sx i ∧ sx i ≤ 2147483647) {i : Int} (h0 : 0 ≤ i) (h1 : i + 4 < sl) {s0 : pm_H} (LI : pm_lwI s0) (kk : ∀ t : pm_H, pm_lwI t → G 1265 [some (.inr (.inr (1000, 0))), some (.inr (.inr (0, 0))), some (.inr (.inr (40, 0))), some (.inl i)] [] 122 t) : G 752 [some (.inr (.inr (1000, 0))), some (.inr (.inr (0, 0))), some (.inr (.inr (40, 0))), some (.inl i)] [] 122 s0 := by
  obtain ⟨R0, K0, J0, C0, E0, P0⟩ := LI
  refine px_aload_n hG dL_law_752 rfl ?_
  refine px_aload_n hG dL_law_753 rfl ?_
  refine px_iload_n hG dL_law_754 rfl ?_
  refine px_iconst hG dL_law_755 ?_
  refine px_iadd hG dL_law_756 ?_
  refine px_sld hG dL_law_757 ⟨by omega, by show _ < sl; omega⟩ ?_
  show G 758 [some (.inr (.inr (1000, 0))), some (.inr (.inr (0, 0))), some (.inr (.inr (40, 0))), some (.inl i)] [.inl (sx (i + 1)), .inr (.inr (0, 0))] 122 s0
  refine px_aload_n hG dL_law_758 rfl ?_
  refine px_iload_n hG dL_law_759 rfl ?_
  refine px_iconst hG dL_law_760 ?_
  refine px_iadd hG dL_law_761 ?_
  refine px_sld hG dL_law_762 ⟨by omega, by show _ < sl; omega⟩ ?_
  show G 763 [some (.inr (.inr (1000, 0))), some (.inr (.inr (0, 0))), some (.inr (.inr (40, 0))), some (.inl i)] [.inl (sx (i + 2)), .inl (sx (i + 1)), .inr (.inr (0, 0))] 122 s0
  refine jv2 hG dL_law_763 ct_X10_node lk_L_118 ⟨rfl, rfl⟩ (by decide) ⟨Nat.le_of_ble_eq_true rfl, Nat.le_of_ble_eq_true rfl, Nat.le_of_ble_eq_true rfl⟩ (Nat.le_of_ble_eq_true rfl) ⟨(sx (i + 1)), (sx (i + 2)), rfl, rfl, R0, hx _, hx _, K0⟩ (fun r1 t2 p3 => ?_)
  obtain ⟨x4, rfl, Rt2, Ft2, bt2⟩ := p3 _ _ rfl
  have Ct2 := pm_CH_eq (fun q => Ft2 46 0 q rfl) C0
  have Kt2 : pm_K1 t2 := bt2
  have Jt2 := pm_J2_fr Ft2 rfl J0
  have Pt2 : pm_SP t2 := pm_SP_c P0 (fun r q => Ft2 2 r q rfl) (Ft2 31 0 1 rfl) (fun r q => Ft2 32 r q rfl) (fun r q => Ft2 33 r q rfl)
  have Et2 : pm_LE t2 := fun q a b => ⟨(Ft2 36 0 q rfl).trans ((E0 q a b).1.trans (Ft2 64 0 q rfl).symm), (Ft2 37 0 q rfl).trans ((E0 q a b).2.trans (Ft2 65 0 q rfl).symm)⟩
  show G 766 [some (.inr (.inr (1000, 0))), some (.inr (.inr (0, 0))), some (.inr (.inr (40, 0))), some (.inl i)] [.inl x4] 122 t2
  refine px_popi hG dL_law_766 ?_
  refine px_aload_n hG dL_law_767 rfl ?_
  refine px_aload_n hG dL_law_768 rfl ?_
  refine px_iload_n hG dL_law_769 rfl ?_
  refine px_iconst hG dL_law_770 ?_
  refine px_iadd hG dL_law_771 ?_
  refine px_sld hG dL_law_772 ⟨by omega, by show _ < sl; omega⟩ ?_
  show G 773 [some (.inr (.inr (1000, 0))), some (.inr (.inr (0, 0))), some (.inr (.inr (40, 0))), some (.inl i)] [.inl (sx (i + 1)), .inr (.inr (40, 0))] 122 t2
  refine px_aload_n hG dL_law_773 rfl ?_
  refine px_iload_n hG dL_law_774 rfl ?_
  refine px_iconst hG dL_law_775 ?_
  refine px_iadd hG dL_law_776 ?_
  refine px_sld hG dL_law_777 ⟨by omega, by show _ < sl; omega⟩ ?_
  show G 778 [some (.inr (.inr (1000, 0))), some (.inr (.inr (0, 0))), some (.inr (.inr (40, 0))), some (.inl i)] [.inl (sx (i + 2)), .inl (sx (i + 1)), .inr (.inr (40, 0))] 122 t2
  refine jv2 hG dL_law_778 ct_X11_node lk_L_121 ⟨rfl, rfl⟩ (by decide) ⟨Nat.le_of_ble_eq_true rfl, Nat.le_of_ble_eq_true rfl, Nat.le_of_ble_eq_true rfl⟩ (Nat.le_of_ble_eq_true rfl) ⟨(sx (i + 1)), (sx (i + 2)), rfl, rfl, Rt2, ⟨hx _, hx _⟩, Jt2⟩ (fun r5 t6 p7 => ?_)
  obtain ⟨x8, rfl, Rt6, Ft6⟩ := p7 _ _ rfl
  have Ct6 := pm_CH_eq (fun q => Ft6 46 0 q rfl) Ct2
  have Kt6 : pm_K1 t6 := pm_K1_c Kt2 (Ft6 3 0 0 rfl) (Ft6 3 0 1 rfl) (Ft6 3 0 2 rfl) (Ft6 3 0 3 rfl)
  have Jt6 := pm_J2_fr Ft6 rfl Jt2
  have Pt6 : pm_SP t6 := pm_SP_c Pt2 (fun r q => Ft6 2 r q rfl) (Ft6 31 0 1 rfl) (fun r q => Ft6 32 r q rfl) (fun r q => Ft6 33 r q rfl)
  have Et6 : pm_LE t6 := fun q a b => ⟨(Ft6 36 0 q rfl).trans ((Et2 q a b).1.trans (Ft6 64 0 q rfl).symm), (Ft6 37 0 q rfl).trans ((Et2 q a b).2.trans (Ft6 65 0 q rfl).symm)⟩
  show G 781 [some (.inr (.inr (1000, 0))), some (.inr (.inr (0, 0))), some (.inr (.inr (40, 0))), some (.inl i)] [.inl x8] 122 t6
  refine px_popi hG dL_law_781 ?_
  refine px_goto hG dL_law_782 (tgt := 1265) (by decide) ?_
  exact kk t6 ⟨Rt6, Kt6, Jt6, Ct6, Et6, Pt6⟩
theorem lw_c25 {sl : Int} {sx : Int → Int} {G : pm_G} (hG : pm_Rules (pm_EL sl sx) G) (hx : ∀ i : Int, -2147483648 ≤ sx i ∧ sx i ≤ 2147483647) {i : Int} (h0 : 0 ≤ i) (h1 : i + 4 < sl) {s0 : pm_H} (LI : pm_lwI s0) (kk : ∀ t : pm_H, pm_lwI t → G 1265 [some (.inr (.inr (1000, 0))), some (.inr (.inr (0, 0))), some (.inr (.inr (40, 0))), some (.inl i)] [] 122 t) : G 785 [some (.inr (.inr (1000, 0))), some (.inr (.inr (0, 0))), some (.inr (.inr (40, 0))), some (.inl i)] [] 122 s0 := by
  obtain ⟨R0, K0, J0, C0, E0, P0⟩ := LI
  refine px_aload_n hG dL_law_785 rfl ?_
  refine jv0 hG dL_law_786 ct_X10_inv lk_L_122 ⟨rfl, rfl⟩ (by decide) ⟨Nat.le_of_ble_eq_true rfl, Nat.le_of_ble_eq_true rfl, Nat.le_of_ble_eq_true rfl⟩ (Nat.le_of_ble_eq_true rfl) ⟨rfl, rfl, R0, K0⟩ (fun r1 t2 p3 => ?_)
  obtain ⟨x4, rfl, Rt2, Ft2, bt2⟩ := p3 rfl
  have Ct2 := pm_CH_eq (fun q => Ft2 46 0 q rfl) C0
  have Kt2 : pm_K1 t2 := bt2
  have Jt2 := pm_J2_fr Ft2 rfl J0
  have Pt2 : pm_SP t2 := pm_SP_c P0 (fun r q => Ft2 2 r q rfl) (Ft2 31 0 1 rfl) (fun r q => Ft2 32 r q rfl) (fun r q => Ft2 33 r q rfl)
  have Et2 : pm_LE t2 := fun q a b => ⟨(Ft2 36 0 q rfl).trans ((E0 q a b).1.trans (Ft2 64 0 q rfl).symm), (Ft2 37 0 q rfl).trans ((E0 q a b).2.trans (Ft2 65 0 q rfl).symm)⟩
  show G 789 [some (.inr (.inr (1000, 0))), some (.inr (.inr (0, 0))), some (.inr (.inr (40, 0))), some (.inl i)] [.inl x4] 122 t2
  refine px_popi hG dL_law_789 ?_
  refine px_aload_n hG dL_law_790 rfl ?_
  refine jv0 hG dL_law_791 ct_X11_inv lk_L_125 ⟨rfl, rfl⟩ (by decide) ⟨Nat.le_of_ble_eq_true rfl, Nat.le_of_ble_eq_true rfl, Nat.le_of_ble_eq_true rfl⟩ (Nat.le_of_ble_eq_true rfl) ⟨rfl, rfl, Rt2, Jt2⟩ (fun r5 t6 p7 => ?_)
  obtain ⟨x8, rfl, Rt6, Ft6⟩ := p7 rfl
  have Ct6 := pm_CH_eq (fun q => Ft6 46 0 q rfl) Ct2
  have Kt6 : pm_K1 t6 := pm_K1_c Kt2 (Ft6 3 0 0 rfl) (Ft6 3 0 1 rfl) (Ft6 3 0 2 rfl) (Ft6 3 0 3 rfl)
  have Jt6 := pm_J2_fr Ft6 rfl Jt2
  have Pt6 : pm_SP t6 := pm_SP_c Pt2 (fun r q => Ft6 2 r q rfl) (Ft6 31 0 1 rfl) (fun r q => Ft6 32 r q rfl) (fun r q => Ft6 33 r q rfl)
  have Et6 : pm_LE t6 := fun q a b => ⟨(Ft6 36 0 q rfl).trans ((Et2 q a b).1.trans (Ft6 64 0 q rfl).symm), (Ft6 37 0 q rfl).trans ((Et2 q a b).2.trans (Ft6 65 0 q rfl).symm)⟩
  show G 794 [some (.inr (.inr (1000, 0))), some (.inr (.inr (0, 0))), some (.inr (.inr (40, 0))), some (.inl i)] [.inl x8] 122 t6
  refine px_popi hG dL_law_794 ?_
  refine px_goto hG dL_law_795 (tgt := 1265) (by decide) ?_
  exact kk t6 ⟨Rt6, Kt6, Jt6, Ct6, Et6, Pt6⟩
theorem lw_c26 {sl : Int} {sx : Int → Int} {G : pm_G} (hG : pm_Rules (pm_EL sl sx) G) (hx : ∀ i : Int, -2147483648 ≤ sx i ∧ sx i ≤ 2147483647) {i : Int} (h0 : 0 ≤ i) (h1 : i + 4 < sl) {s0 : pm_H} (LI : pm_lwI s0) (kk : ∀ t : pm_H, pm_lwI t → G 1265 [some (.inr (.inr (1000, 0))), some (.inr (.inr (0, 0))), some (.inr (.inr (40, 0))), some (.inl i)] [] 122 t) : G 798 [some (.inr (.inr (1000, 0))), some (.inr (.inr (0, 0))), some (.inr (.inr (40, 0))), some (.inl i)] [] 122 s0 := by
  obtain ⟨R0, K0, J0, C0, E0, P0⟩ := LI
  refine px_aload_n hG dL_law_798 rfl ?_
  refine px_aload_n hG dL_law_799 rfl ?_
  refine px_iload_n hG dL_law_800 rfl ?_
  refine px_iconst hG dL_law_801 ?_
  refine px_iadd hG dL_law_802 ?_
  refine px_sld hG dL_law_803 ⟨by omega, by show _ < sl; omega⟩ ?_
  show G 804 [some (.inr (.inr (1000, 0))), some (.inr (.inr (0, 0))), some (.inr (.inr (40, 0))), some (.inl i)] [.inl (sx (i + 1)), .inr (.inr (0, 0))] 122 s0
  refine jv1 hG dL_law_804 ct_X10_code lk_L_126 ⟨rfl, rfl⟩ (by decide) ⟨Nat.le_of_ble_eq_true rfl, Nat.le_of_ble_eq_true rfl, Nat.le_of_ble_eq_true rfl⟩ (Nat.le_of_ble_eq_true rfl) ⟨(sx (i + 1)), rfl, rfl, R0, hx _, K0⟩ (fun r1 t2 p3 => ?_)
  obtain ⟨x4, rfl, Rt2, Ft2, bt2⟩ := p3 _ rfl
  have Ct2 := pm_CH_eq (fun q => Ft2 46 0 q rfl) C0
  have Kt2 : pm_K1 t2 := bt2
  have Jt2 := pm_J2_fr Ft2 rfl J0
  have Pt2 : pm_SP t2 := pm_SP_c P0 (fun r q => Ft2 2 r q rfl) (Ft2 31 0 1 rfl) (fun r q => Ft2 32 r q rfl) (fun r q => Ft2 33 r q rfl)
  have Et2 : pm_LE t2 := fun q a b => ⟨(Ft2 36 0 q rfl).trans ((E0 q a b).1.trans (Ft2 64 0 q rfl).symm), (Ft2 37 0 q rfl).trans ((E0 q a b).2.trans (Ft2 65 0 q rfl).symm)⟩
  show G 807 [some (.inr (.inr (1000, 0))), some (.inr (.inr (0, 0))), some (.inr (.inr (40, 0))), some (.inl i)] [.inl x4] 122 t2
  refine px_popi hG dL_law_807 ?_
  refine px_aload_n hG dL_law_808 rfl ?_
  refine px_aload_n hG dL_law_809 rfl ?_
  refine px_iload_n hG dL_law_810 rfl ?_
  refine px_iconst hG dL_law_811 ?_
  refine px_iadd hG dL_law_812 ?_
  refine px_sld hG dL_law_813 ⟨by omega, by show _ < sl; omega⟩ ?_
  show G 814 [some (.inr (.inr (1000, 0))), some (.inr (.inr (0, 0))), some (.inr (.inr (40, 0))), some (.inl i)] [.inl (sx (i + 1)), .inr (.inr (40, 0))] 122 t2
  refine jv1 hG dL_law_814 ct_X11_code lk_L_129 ⟨rfl, rfl⟩ (by decide) ⟨Nat.le_of_ble_eq_true rfl, Nat.le_of_ble_eq_true rfl, Nat.le_of_ble_eq_true rfl⟩ (Nat.le_of_ble_eq_true rfl) ⟨(sx (i + 1)), rfl, rfl, Rt2, hx _, Jt2⟩ (fun r5 t6 p7 => ?_)
  obtain ⟨x8, rfl, Rt6, Ft6⟩ := p7 _ rfl
  have Ct6 := pm_CH_eq (fun q => Ft6 46 0 q rfl) Ct2
  have Kt6 : pm_K1 t6 := pm_K1_c Kt2 (Ft6 3 0 0 rfl) (Ft6 3 0 1 rfl) (Ft6 3 0 2 rfl) (Ft6 3 0 3 rfl)
  have Jt6 := pm_J2_fr Ft6 rfl Jt2
  have Pt6 : pm_SP t6 := pm_SP_c Pt2 (fun r q => Ft6 2 r q rfl) (Ft6 31 0 1 rfl) (fun r q => Ft6 32 r q rfl) (fun r q => Ft6 33 r q rfl)
  have Et6 : pm_LE t6 := fun q a b => ⟨(Ft6 36 0 q rfl).trans ((Et2 q a b).1.trans (Ft6 64 0 q rfl).symm), (Ft6 37 0 q rfl).trans ((Et2 q a b).2.trans (Ft6 65 0 q rfl).symm)⟩
  show G 817 [some (.inr (.inr (1000, 0))), some (.inr (.inr (0, 0))), some (.inr (.inr (40, 0))), some (.inl i)] [.inl x8] 122 t6
  refine px_popi hG dL_law_817 ?_
  refine px_goto hG dL_law_818 (tgt := 1265) (by decide) ?_
  exact kk t6 ⟨Rt6, Kt6, Jt6, Ct6, Et6, Pt6⟩
theorem lw_c27 {sl : Int} {sx : Int → Int} {G : pm_G} (hG : pm_Rules (pm_EL sl sx) G) (hx : ∀ i : Int, -2147483648 ≤ sx i ∧ sx i ≤ 2147483647) {i : Int} (h0 : 0 ≤ i) (h1 : i + 4 < sl) {s0 : pm_H} (LI : pm_lwI s0) (kk : ∀ t : pm_H, pm_lwI t → G 1265 [some (.inr (.inr (1000, 0))), some (.inr (.inr (0, 0))), some (.inr (.inr (40, 0))), some (.inl i)] [] 122 t) : G 821 [some (.inr (.inr (1000, 0))), some (.inr (.inr (0, 0))), some (.inr (.inr (40, 0))), some (.inl i)] [] 122 s0 := by
  obtain ⟨R0, K0, J0, C0, E0, P0⟩ := LI
  refine px_aload_n hG dL_law_821 rfl ?_
  refine px_aload_n hG dL_law_822 rfl ?_
  refine px_iload_n hG dL_law_823 rfl ?_
  refine px_iconst hG dL_law_824 ?_
  refine px_iadd hG dL_law_825 ?_
  refine px_sld hG dL_law_826 ⟨by omega, by show _ < sl; omega⟩ ?_
  show G 827 [some (.inr (.inr (1000, 0))), some (.inr (.inr (0, 0))), some (.inr (.inr (40, 0))), some (.inl i)] [.inl (sx (i + 1)), .inr (.inr (0, 0))] 122 s0
  refine px_aload_n hG dL_law_827 rfl ?_
  refine px_iload_n hG dL_law_828 rfl ?_
  refine px_iconst hG dL_law_829 ?_
  refine px_iadd hG dL_law_830 ?_
  refine px_sld hG dL_law_831 ⟨by omega, by show _ < sl; omega⟩ ?_
  show G 832 [some (.inr (.inr (1000, 0))), some (.inr (.inr (0, 0))), some (.inr (.inr (40, 0))), some (.inl i)] [.inl (sx (i + 2)), .inl (sx (i + 1)), .inr (.inr (0, 0))] 122 s0
  refine px_aload_n hG dL_law_832 rfl ?_
  refine px_iload_n hG dL_law_833 rfl ?_
  refine px_iconst hG dL_law_834 ?_
  refine px_iadd hG dL_law_835 ?_
  refine px_sld hG dL_law_836 ⟨by omega, by show _ < sl; omega⟩ ?_
  show G 837 [some (.inr (.inr (1000, 0))), some (.inr (.inr (0, 0))), some (.inr (.inr (40, 0))), some (.inl i)] [.inl (sx (i + 3)), .inl (sx (i + 2)), .inl (sx (i + 1)), .inr (.inr (0, 0))] 122 s0
  refine jv3 hG dL_law_837 ct_X10_decode lk_L_130 ⟨rfl, rfl⟩ (by decide) ⟨Nat.le_of_ble_eq_true rfl, Nat.le_of_ble_eq_true rfl, Nat.le_of_ble_eq_true rfl⟩ (Nat.le_of_ble_eq_true rfl) ⟨(sx (i + 1)), (sx (i + 2)), (sx (i + 3)), rfl, rfl, R0, hx _, hx _, hx _, K0⟩ (fun r1 t2 p3 => ?_)
  obtain ⟨x4, rfl, Rt2, Ft2, bt2⟩ := p3 _ _ _ rfl
  have Ct2 := pm_CH_eq (fun q => Ft2 46 0 q rfl) C0
  have Kt2 : pm_K1 t2 := bt2
  have Jt2 := pm_J2_fr Ft2 rfl J0
  have Pt2 : pm_SP t2 := pm_SP_c P0 (fun r q => Ft2 2 r q rfl) (Ft2 31 0 1 rfl) (fun r q => Ft2 32 r q rfl) (fun r q => Ft2 33 r q rfl)
  have Et2 : pm_LE t2 := fun q a b => ⟨(Ft2 36 0 q rfl).trans ((E0 q a b).1.trans (Ft2 64 0 q rfl).symm), (Ft2 37 0 q rfl).trans ((E0 q a b).2.trans (Ft2 65 0 q rfl).symm)⟩
  show G 840 [some (.inr (.inr (1000, 0))), some (.inr (.inr (0, 0))), some (.inr (.inr (40, 0))), some (.inl i)] [.inl x4] 122 t2
  refine px_popi hG dL_law_840 ?_
  refine px_aload_n hG dL_law_841 rfl ?_
  refine px_aload_n hG dL_law_842 rfl ?_
  refine px_iload_n hG dL_law_843 rfl ?_
  refine px_iconst hG dL_law_844 ?_
  refine px_iadd hG dL_law_845 ?_
  refine px_sld hG dL_law_846 ⟨by omega, by show _ < sl; omega⟩ ?_
  show G 847 [some (.inr (.inr (1000, 0))), some (.inr (.inr (0, 0))), some (.inr (.inr (40, 0))), some (.inl i)] [.inl (sx (i + 1)), .inr (.inr (40, 0))] 122 t2
  refine px_aload_n hG dL_law_847 rfl ?_
  refine px_iload_n hG dL_law_848 rfl ?_
  refine px_iconst hG dL_law_849 ?_
  refine px_iadd hG dL_law_850 ?_
  refine px_sld hG dL_law_851 ⟨by omega, by show _ < sl; omega⟩ ?_
  show G 852 [some (.inr (.inr (1000, 0))), some (.inr (.inr (0, 0))), some (.inr (.inr (40, 0))), some (.inl i)] [.inl (sx (i + 2)), .inl (sx (i + 1)), .inr (.inr (40, 0))] 122 t2
  refine px_aload_n hG dL_law_852 rfl ?_
  refine px_iload_n hG dL_law_853 rfl ?_
  refine px_iconst hG dL_law_854 ?_
  refine px_iadd hG dL_law_855 ?_
  refine px_sld hG dL_law_856 ⟨by omega, by show _ < sl; omega⟩ ?_
  show G 857 [some (.inr (.inr (1000, 0))), some (.inr (.inr (0, 0))), some (.inr (.inr (40, 0))), some (.inl i)] [.inl (sx (i + 3)), .inl (sx (i + 2)), .inl (sx (i + 1)), .inr (.inr (40, 0))] 122 t2
  refine jv3 hG dL_law_857 ct_X11_decode lk_L_133 ⟨rfl, rfl⟩ (by decide) ⟨Nat.le_of_ble_eq_true rfl, Nat.le_of_ble_eq_true rfl, Nat.le_of_ble_eq_true rfl⟩ (Nat.le_of_ble_eq_true rfl) ⟨(sx (i + 1)), (sx (i + 2)), (sx (i + 3)), rfl, rfl, Rt2, ⟨hx _, hx _, hx _⟩, Jt2⟩ (fun r5 t6 p7 => ?_)
  obtain ⟨x8, rfl, Rt6, Ft6, bt6⟩ := p7 _ _ _ rfl
  have Ct6 := pm_CH_eq (fun q => Ft6 46 0 q rfl) Ct2
  have Kt6 : pm_K1 t6 := pm_K1_c Kt2 (Ft6 3 0 0 rfl) (Ft6 3 0 1 rfl) (Ft6 3 0 2 rfl) (Ft6 3 0 3 rfl)
  have Jt6 := bt6
  have Pt6 : pm_SP t6 := pm_SP_c Pt2 (fun r q => Ft6 2 r q rfl) (Ft6 31 0 1 rfl) (fun r q => Ft6 32 r q rfl) (fun r q => Ft6 33 r q rfl)
  have Et6 : pm_LE t6 := fun q a b => ⟨(Ft6 36 0 q rfl).trans ((Et2 q a b).1.trans (Ft6 64 0 q rfl).symm), (Ft6 37 0 q rfl).trans ((Et2 q a b).2.trans (Ft6 65 0 q rfl).symm)⟩
  show G 860 [some (.inr (.inr (1000, 0))), some (.inr (.inr (0, 0))), some (.inr (.inr (40, 0))), some (.inl i)] [.inl x8] 122 t6
  refine px_popi hG dL_law_860 ?_
  refine px_goto hG dL_law_861 (tgt := 1265) (by decide) ?_
  exact kk t6 ⟨Rt6, Kt6, Jt6, Ct6, Et6, Pt6⟩
theorem lw_c28 {sl : Int} {sx : Int → Int} {G : pm_G} (hG : pm_Rules (pm_EL sl sx) G) (hx : ∀ i : Int, -2147483648 ≤ sx i ∧ sx i ≤ 2147483647) {i : Int} (h0 : 0 ≤ i) (h1 : i + 4 < sl) {s0 : pm_H} (LI : pm_lwI s0) (kk : ∀ t : pm_H, pm_lwI t → G 1265 [some (.inr (.inr (1000, 0))), some (.inr (.inr (0, 0))), some (.inr (.inr (40, 0))), some (.inl i)] [] 122 t) : G 864 [some (.inr (.inr (1000, 0))), some (.inr (.inr (0, 0))), some (.inr (.inr (40, 0))), some (.inl i)] [] 122 s0 := by
  obtain ⟨R0, K0, J0, C0, E0, P0⟩ := LI
  refine px_aload_n hG dL_law_864 rfl ?_
  refine px_aload_n hG dL_law_865 rfl ?_
  refine px_iload_n hG dL_law_866 rfl ?_
  refine px_iconst hG dL_law_867 ?_
  refine px_iadd hG dL_law_868 ?_
  refine px_sld hG dL_law_869 ⟨by omega, by show _ < sl; omega⟩ ?_
  show G 870 [some (.inr (.inr (1000, 0))), some (.inr (.inr (0, 0))), some (.inr (.inr (40, 0))), some (.inl i)] [.inl (sx (i + 1)), .inr (.inr (0, 0))] 122 s0
  refine px_aload_n hG dL_law_870 rfl ?_
  refine px_iload_n hG dL_law_871 rfl ?_
  refine px_iconst hG dL_law_872 ?_
  refine px_iadd hG dL_law_873 ?_
  refine px_sld hG dL_law_874 ⟨by omega, by show _ < sl; omega⟩ ?_
  show G 875 [some (.inr (.inr (1000, 0))), some (.inr (.inr (0, 0))), some (.inr (.inr (40, 0))), some (.inl i)] [.inl (sx (i + 2)), .inl (sx (i + 1)), .inr (.inr (0, 0))] 122 s0
  refine px_aload_n hG dL_law_875 rfl ?_
  refine px_iload_n hG dL_law_876 rfl ?_
  refine px_iconst hG dL_law_877 ?_
  refine px_iadd hG dL_law_878 ?_
  refine px_sld hG dL_law_879 ⟨by omega, by show _ < sl; omega⟩ ?_
  show G 880 [some (.inr (.inr (1000, 0))), some (.inr (.inr (0, 0))), some (.inr (.inr (40, 0))), some (.inl i)] [.inl (sx (i + 3)), .inl (sx (i + 2)), .inl (sx (i + 1)), .inr (.inr (0, 0))] 122 s0
  refine jv3 hG dL_law_880 ct_X10_grow lk_L_134 ⟨rfl, rfl⟩ (by decide) ⟨Nat.le_of_ble_eq_true rfl, Nat.le_of_ble_eq_true rfl, Nat.le_of_ble_eq_true rfl⟩ (Nat.le_of_ble_eq_true rfl) ⟨(sx (i + 1)), (sx (i + 2)), (sx (i + 3)), rfl, rfl, R0, hx _, hx _, hx _, K0⟩ (fun r1 t2 p3 => ?_)
  obtain ⟨x4, rfl, Rt2, Ft2, bt2⟩ := p3 _ _ _ rfl
  have Ct2 := pm_CH_eq (fun q => Ft2 46 0 q rfl) C0
  have Kt2 : pm_K1 t2 := bt2
  have Jt2 := pm_J2_fr Ft2 rfl J0
  have Pt2 : pm_SP t2 := pm_SP_c P0 (fun r q => Ft2 2 r q rfl) (Ft2 31 0 1 rfl) (fun r q => Ft2 32 r q rfl) (fun r q => Ft2 33 r q rfl)
  have Et2 : pm_LE t2 := fun q a b => ⟨(Ft2 36 0 q rfl).trans ((E0 q a b).1.trans (Ft2 64 0 q rfl).symm), (Ft2 37 0 q rfl).trans ((E0 q a b).2.trans (Ft2 65 0 q rfl).symm)⟩
  show G 883 [some (.inr (.inr (1000, 0))), some (.inr (.inr (0, 0))), some (.inr (.inr (40, 0))), some (.inl i)] [.inl x4] 122 t2
  refine px_popi hG dL_law_883 ?_
  refine px_aload_n hG dL_law_884 rfl ?_
  refine px_aload_n hG dL_law_885 rfl ?_
  refine px_iload_n hG dL_law_886 rfl ?_
  refine px_iconst hG dL_law_887 ?_
  refine px_iadd hG dL_law_888 ?_
  refine px_sld hG dL_law_889 ⟨by omega, by show _ < sl; omega⟩ ?_
  show G 890 [some (.inr (.inr (1000, 0))), some (.inr (.inr (0, 0))), some (.inr (.inr (40, 0))), some (.inl i)] [.inl (sx (i + 1)), .inr (.inr (40, 0))] 122 t2
  refine px_aload_n hG dL_law_890 rfl ?_
  refine px_iload_n hG dL_law_891 rfl ?_
  refine px_iconst hG dL_law_892 ?_
  refine px_iadd hG dL_law_893 ?_
  refine px_sld hG dL_law_894 ⟨by omega, by show _ < sl; omega⟩ ?_
  show G 895 [some (.inr (.inr (1000, 0))), some (.inr (.inr (0, 0))), some (.inr (.inr (40, 0))), some (.inl i)] [.inl (sx (i + 2)), .inl (sx (i + 1)), .inr (.inr (40, 0))] 122 t2
  refine px_aload_n hG dL_law_895 rfl ?_
  refine px_iload_n hG dL_law_896 rfl ?_
  refine px_iconst hG dL_law_897 ?_
  refine px_iadd hG dL_law_898 ?_
  refine px_sld hG dL_law_899 ⟨by omega, by show _ < sl; omega⟩ ?_
  show G 900 [some (.inr (.inr (1000, 0))), some (.inr (.inr (0, 0))), some (.inr (.inr (40, 0))), some (.inl i)] [.inl (sx (i + 3)), .inl (sx (i + 2)), .inl (sx (i + 1)), .inr (.inr (40, 0))] 122 t2
  refine jv3 hG dL_law_900 ct_X11_grow lk_L_137 ⟨rfl, rfl⟩ (by decide) ⟨Nat.le_of_ble_eq_true rfl, Nat.le_of_ble_eq_true rfl, Nat.le_of_ble_eq_true rfl⟩ (Nat.le_of_ble_eq_true rfl) ⟨(sx (i + 1)), (sx (i + 2)), (sx (i + 3)), rfl, rfl, Rt2, ⟨hx _, hx _, hx _⟩, Jt2⟩ (fun r5 t6 p7 => ?_)
  obtain ⟨x8, rfl, Rt6, Ft6, bt6⟩ := p7 _ _ _ rfl
  have Ct6 := pm_CH_eq (fun q => Ft6 46 0 q rfl) Ct2
  have Kt6 : pm_K1 t6 := pm_K1_c Kt2 (Ft6 3 0 0 rfl) (Ft6 3 0 1 rfl) (Ft6 3 0 2 rfl) (Ft6 3 0 3 rfl)
  have Jt6 := bt6
  have Pt6 : pm_SP t6 := pm_SP_c Pt2 (fun r q => Ft6 2 r q rfl) (Ft6 31 0 1 rfl) (fun r q => Ft6 32 r q rfl) (fun r q => Ft6 33 r q rfl)
  have Et6 : pm_LE t6 := fun q a b => ⟨(Ft6 36 0 q rfl).trans ((Et2 q a b).1.trans (Ft6 64 0 q rfl).symm), (Ft6 37 0 q rfl).trans ((Et2 q a b).2.trans (Ft6 65 0 q rfl).symm)⟩
  show G 903 [some (.inr (.inr (1000, 0))), some (.inr (.inr (0, 0))), some (.inr (.inr (40, 0))), some (.inl i)] [.inl x8] 122 t6
  refine px_popi hG dL_law_903 ?_
  refine px_goto hG dL_law_904 (tgt := 1265) (by decide) ?_
  exact kk t6 ⟨Rt6, Kt6, Jt6, Ct6, Et6, Pt6⟩
theorem lw_c29 {sl : Int} {sx : Int → Int} {G : pm_G} (hG : pm_Rules (pm_EL sl sx) G) (hx : ∀ i : Int, -2147483648 ≤ sx i ∧ sx i ≤ 2147483647) {i : Int} (h0 : 0 ≤ i) (h1 : i + 4 < sl) {s0 : pm_H} (LI : pm_lwI s0) (kk : ∀ t : pm_H, pm_lwI t → G 1265 [some (.inr (.inr (1000, 0))), some (.inr (.inr (0, 0))), some (.inr (.inr (40, 0))), some (.inl i)] [] 122 t) : G 907 [some (.inr (.inr (1000, 0))), some (.inr (.inr (0, 0))), some (.inr (.inr (40, 0))), some (.inl i)] [] 122 s0 := by
  obtain ⟨R0, K0, J0, C0, E0, P0⟩ := LI
  refine px_aload_n hG dL_law_907 rfl ?_
  refine px_aload_n hG dL_law_908 rfl ?_
  refine px_iload_n hG dL_law_909 rfl ?_
  refine px_iconst hG dL_law_910 ?_
  refine px_iadd hG dL_law_911 ?_
  refine px_sld hG dL_law_912 ⟨by omega, by show _ < sl; omega⟩ ?_
  show G 913 [some (.inr (.inr (1000, 0))), some (.inr (.inr (0, 0))), some (.inr (.inr (40, 0))), some (.inl i)] [.inl (sx (i + 1)), .inr (.inr (0, 0))] 122 s0
  refine px_aload_n hG dL_law_913 rfl ?_
  refine px_iload_n hG dL_law_914 rfl ?_
  refine px_iconst hG dL_law_915 ?_
  refine px_iadd hG dL_law_916 ?_
  refine px_sld hG dL_law_917 ⟨by omega, by show _ < sl; omega⟩ ?_
  show G 918 [some (.inr (.inr (1000, 0))), some (.inr (.inr (0, 0))), some (.inr (.inr (40, 0))), some (.inl i)] [.inl (sx (i + 2)), .inl (sx (i + 1)), .inr (.inr (0, 0))] 122 s0
  refine jv2 hG dL_law_918 ct_X10_walk lk_L_138 ⟨rfl, rfl⟩ (by decide) ⟨Nat.le_of_ble_eq_true rfl, Nat.le_of_ble_eq_true rfl, Nat.le_of_ble_eq_true rfl⟩ (Nat.le_of_ble_eq_true rfl) ⟨(sx (i + 1)), (sx (i + 2)), rfl, rfl, R0, hx _, hx _, K0⟩ (fun r1 t2 p3 => ?_)
  obtain ⟨x4, rfl, Rt2, Ft2, bt2⟩ := p3 _ _ rfl
  have Ct2 := pm_CH_eq (fun q => Ft2 46 0 q rfl) C0
  have Kt2 : pm_K1 t2 := bt2
  have Jt2 := pm_J2_fr Ft2 rfl J0
  have Pt2 : pm_SP t2 := pm_SP_c P0 (fun r q => Ft2 2 r q rfl) (Ft2 31 0 1 rfl) (fun r q => Ft2 32 r q rfl) (fun r q => Ft2 33 r q rfl)
  have Et2 : pm_LE t2 := fun q a b => ⟨(Ft2 36 0 q rfl).trans ((E0 q a b).1.trans (Ft2 64 0 q rfl).symm), (Ft2 37 0 q rfl).trans ((E0 q a b).2.trans (Ft2 65 0 q rfl).symm)⟩
  show G 921 [some (.inr (.inr (1000, 0))), some (.inr (.inr (0, 0))), some (.inr (.inr (40, 0))), some (.inl i)] [.inl x4] 122 t2
  refine px_popi hG dL_law_921 ?_
  refine px_aload_n hG dL_law_922 rfl ?_
  refine px_aload_n hG dL_law_923 rfl ?_
  refine px_iload_n hG dL_law_924 rfl ?_
  refine px_iconst hG dL_law_925 ?_
  refine px_iadd hG dL_law_926 ?_
  refine px_sld hG dL_law_927 ⟨by omega, by show _ < sl; omega⟩ ?_
  show G 928 [some (.inr (.inr (1000, 0))), some (.inr (.inr (0, 0))), some (.inr (.inr (40, 0))), some (.inl i)] [.inl (sx (i + 1)), .inr (.inr (40, 0))] 122 t2
  refine px_aload_n hG dL_law_928 rfl ?_
  refine px_iload_n hG dL_law_929 rfl ?_
  refine px_iconst hG dL_law_930 ?_
  refine px_iadd hG dL_law_931 ?_
  refine px_sld hG dL_law_932 ⟨by omega, by show _ < sl; omega⟩ ?_
  show G 933 [some (.inr (.inr (1000, 0))), some (.inr (.inr (0, 0))), some (.inr (.inr (40, 0))), some (.inl i)] [.inl (sx (i + 2)), .inl (sx (i + 1)), .inr (.inr (40, 0))] 122 t2
  refine jv2 hG dL_law_933 ct_X11_walk lk_L_141 ⟨rfl, rfl⟩ (by decide) ⟨Nat.le_of_ble_eq_true rfl, Nat.le_of_ble_eq_true rfl, Nat.le_of_ble_eq_true rfl⟩ (Nat.le_of_ble_eq_true rfl) ⟨(sx (i + 1)), (sx (i + 2)), rfl, rfl, Rt2, ⟨hx _, hx _⟩, Jt2⟩ (fun r5 t6 p7 => ?_)
  obtain ⟨x8, rfl, Rt6, Ft6⟩ := p7 _ _ rfl
  have Ct6 := pm_CH_eq (fun q => Ft6 46 0 q rfl) Ct2
  have Kt6 : pm_K1 t6 := pm_K1_c Kt2 (Ft6 3 0 0 rfl) (Ft6 3 0 1 rfl) (Ft6 3 0 2 rfl) (Ft6 3 0 3 rfl)
  have Jt6 := pm_J2_fr Ft6 rfl Jt2
  have Pt6 : pm_SP t6 := pm_SP_c Pt2 (fun r q => Ft6 2 r q rfl) (Ft6 31 0 1 rfl) (fun r q => Ft6 32 r q rfl) (fun r q => Ft6 33 r q rfl)
  have Et6 : pm_LE t6 := fun q a b => ⟨(Ft6 36 0 q rfl).trans ((Et2 q a b).1.trans (Ft6 64 0 q rfl).symm), (Ft6 37 0 q rfl).trans ((Et2 q a b).2.trans (Ft6 65 0 q rfl).symm)⟩
  show G 936 [some (.inr (.inr (1000, 0))), some (.inr (.inr (0, 0))), some (.inr (.inr (40, 0))), some (.inl i)] [.inl x8] 122 t6
  refine px_popi hG dL_law_936 ?_
  refine px_goto hG dL_law_937 (tgt := 1265) (by decide) ?_
  exact kk t6 ⟨Rt6, Kt6, Jt6, Ct6, Et6, Pt6⟩
theorem lw_c30 {sl : Int} {sx : Int → Int} {G : pm_G} (hG : pm_Rules (pm_EL sl sx) G) (hx : ∀ i : Int, -2147483648 ≤ sx i ∧ sx i ≤ 2147483647) {i : Int} (h0 : 0 ≤ i) (h1 : i + 4 < sl) {s0 : pm_H} (LI : pm_lwI s0) (kk : ∀ t : pm_H, pm_lwI t → G 1265 [some (.inr (.inr (1000, 0))), some (.inr (.inr (0, 0))), some (.inr (.inr (40, 0))), some (.inl i)] [] 122 t) : G 940 [some (.inr (.inr (1000, 0))), some (.inr (.inr (0, 0))), some (.inr (.inr (40, 0))), some (.inl i)] [] 122 s0 := by
  obtain ⟨R0, K0, J0, C0, E0, P0⟩ := LI
  refine px_aload_n hG dL_law_940 rfl ?_
  refine px_aload_n hG dL_law_941 rfl ?_
  refine px_iload_n hG dL_law_942 rfl ?_
  refine px_iconst hG dL_law_943 ?_
  refine px_iadd hG dL_law_944 ?_
  refine px_sld hG dL_law_945 ⟨by omega, by show _ < sl; omega⟩ ?_
  show G 946 [some (.inr (.inr (1000, 0))), some (.inr (.inr (0, 0))), some (.inr (.inr (40, 0))), some (.inl i)] [.inl (sx (i + 1)), .inr (.inr (0, 0))] 122 s0
  refine jv1 hG dL_law_946 ct_X10_counts lk_L_142 ⟨rfl, rfl⟩ (by decide) ⟨Nat.le_of_ble_eq_true rfl, Nat.le_of_ble_eq_true rfl, Nat.le_of_ble_eq_true rfl⟩ (Nat.le_of_ble_eq_true rfl) ⟨(sx (i + 1)), rfl, rfl, R0, hx _, K0⟩ (fun r1 t2 p3 => ?_)
  obtain ⟨x4, rfl, Rt2, Ft2, bt2⟩ := p3 _ rfl
  have Ct2 := pm_CH_eq (fun q => Ft2 46 0 q rfl) C0
  have Kt2 : pm_K1 t2 := bt2
  have Jt2 := pm_J2_fr Ft2 rfl J0
  have Pt2 : pm_SP t2 := pm_SP_c P0 (fun r q => Ft2 2 r q rfl) (Ft2 31 0 1 rfl) (fun r q => Ft2 32 r q rfl) (fun r q => Ft2 33 r q rfl)
  have Et2 : pm_LE t2 := fun q a b => ⟨(Ft2 36 0 q rfl).trans ((E0 q a b).1.trans (Ft2 64 0 q rfl).symm), (Ft2 37 0 q rfl).trans ((E0 q a b).2.trans (Ft2 65 0 q rfl).symm)⟩
  show G 949 [some (.inr (.inr (1000, 0))), some (.inr (.inr (0, 0))), some (.inr (.inr (40, 0))), some (.inl i)] [.inl x4] 122 t2
  refine px_popi hG dL_law_949 ?_
  refine px_aload_n hG dL_law_950 rfl ?_
  refine px_aload_n hG dL_law_951 rfl ?_
  refine px_iload_n hG dL_law_952 rfl ?_
  refine px_iconst hG dL_law_953 ?_
  refine px_iadd hG dL_law_954 ?_
  refine px_sld hG dL_law_955 ⟨by omega, by show _ < sl; omega⟩ ?_
  show G 956 [some (.inr (.inr (1000, 0))), some (.inr (.inr (0, 0))), some (.inr (.inr (40, 0))), some (.inl i)] [.inl (sx (i + 1)), .inr (.inr (40, 0))] 122 t2
  refine jv1 hG dL_law_956 ct_X11_counts lk_L_145 ⟨rfl, rfl⟩ (by decide) ⟨Nat.le_of_ble_eq_true rfl, Nat.le_of_ble_eq_true rfl, Nat.le_of_ble_eq_true rfl⟩ (Nat.le_of_ble_eq_true rfl) ⟨(sx (i + 1)), rfl, rfl, Rt2, hx _, Jt2⟩ (fun r5 t6 p7 => ?_)
  obtain ⟨x8, rfl, Rt6, Ft6⟩ := p7 _ rfl
  have Ct6 := pm_CH_eq (fun q => Ft6 46 0 q rfl) Ct2
  have Kt6 : pm_K1 t6 := pm_K1_c Kt2 (Ft6 3 0 0 rfl) (Ft6 3 0 1 rfl) (Ft6 3 0 2 rfl) (Ft6 3 0 3 rfl)
  have Jt6 := pm_J2_fr Ft6 rfl Jt2
  have Pt6 : pm_SP t6 := pm_SP_c Pt2 (fun r q => Ft6 2 r q rfl) (Ft6 31 0 1 rfl) (fun r q => Ft6 32 r q rfl) (fun r q => Ft6 33 r q rfl)
  have Et6 : pm_LE t6 := fun q a b => ⟨(Ft6 36 0 q rfl).trans ((Et2 q a b).1.trans (Ft6 64 0 q rfl).symm), (Ft6 37 0 q rfl).trans ((Et2 q a b).2.trans (Ft6 65 0 q rfl).symm)⟩
  show G 959 [some (.inr (.inr (1000, 0))), some (.inr (.inr (0, 0))), some (.inr (.inr (40, 0))), some (.inl i)] [.inl x8] 122 t6
  refine px_popi hG dL_law_959 ?_
  refine px_goto hG dL_law_960 (tgt := 1265) (by decide) ?_
  exact kk t6 ⟨Rt6, Kt6, Jt6, Ct6, Et6, Pt6⟩
theorem lw_c31 {sl : Int} {sx : Int → Int} {G : pm_G} (hG : pm_Rules (pm_EL sl sx) G) (hx : ∀ i : Int, -2147483648 ≤ sx i ∧ sx i ≤ 2147483647) {i : Int} (h0 : 0 ≤ i) (h1 : i + 4 < sl) {s0 : pm_H} (LI : pm_lwI s0) (kk : ∀ t : pm_H, pm_lwI t → G 1265 [some (.inr (.inr (1000, 0))), some (.inr (.inr (0, 0))), some (.inr (.inr (40, 0))), some (.inl i)] [] 122 t) : G 963 [some (.inr (.inr (1000, 0))), some (.inr (.inr (0, 0))), some (.inr (.inr (40, 0))), some (.inl i)] [] 122 s0 := by
  obtain ⟨R0, K0, J0, C0, E0, P0⟩ := LI
  refine px_aload_n hG dL_law_963 rfl ?_
  refine px_aload_n hG dL_law_964 rfl ?_
  refine px_iload_n hG dL_law_965 rfl ?_
  refine px_iconst hG dL_law_966 ?_
  refine px_iadd hG dL_law_967 ?_
  refine px_sld hG dL_law_968 ⟨by omega, by show _ < sl; omega⟩ ?_
  show G 969 [some (.inr (.inr (1000, 0))), some (.inr (.inr (0, 0))), some (.inr (.inr (40, 0))), some (.inl i)] [.inl (sx (i + 1)), .inr (.inr (0, 0))] 122 s0
  refine px_aload_n hG dL_law_969 rfl ?_
  refine px_iload_n hG dL_law_970 rfl ?_
  refine px_iconst hG dL_law_971 ?_
  refine px_iadd hG dL_law_972 ?_
  refine px_sld hG dL_law_973 ⟨by omega, by show _ < sl; omega⟩ ?_
  show G 974 [some (.inr (.inr (1000, 0))), some (.inr (.inr (0, 0))), some (.inr (.inr (40, 0))), some (.inl i)] [.inl (sx (i + 2)), .inl (sx (i + 1)), .inr (.inr (0, 0))] 122 s0
  refine px_aload_n hG dL_law_974 rfl ?_
  refine px_iload_n hG dL_law_975 rfl ?_
  refine px_iconst hG dL_law_976 ?_
  refine px_iadd hG dL_law_977 ?_
  refine px_sld hG dL_law_978 ⟨by omega, by show _ < sl; omega⟩ ?_
  show G 979 [some (.inr (.inr (1000, 0))), some (.inr (.inr (0, 0))), some (.inr (.inr (40, 0))), some (.inl i)] [.inl (sx (i + 3)), .inl (sx (i + 2)), .inl (sx (i + 1)), .inr (.inr (0, 0))] 122 s0
  refine jv3 hG dL_law_979 ct_X10_both lk_L_146 ⟨rfl, rfl⟩ (by decide) ⟨Nat.le_of_ble_eq_true rfl, Nat.le_of_ble_eq_true rfl, Nat.le_of_ble_eq_true rfl⟩ (Nat.le_of_ble_eq_true rfl) ⟨(sx (i + 1)), (sx (i + 2)), (sx (i + 3)), rfl, rfl, R0, hx _, hx _, hx _, K0⟩ (fun r1 t2 p3 => ?_)
  obtain ⟨x4, rfl, Rt2, Ft2, bt2⟩ := p3 _ _ _ rfl
  have Ct2 := pm_CH_eq (fun q => Ft2 46 0 q rfl) C0
  have Kt2 : pm_K1 t2 := bt2
  have Jt2 := pm_J2_fr Ft2 rfl J0
  have Pt2 : pm_SP t2 := pm_SP_c P0 (fun r q => Ft2 2 r q rfl) (Ft2 31 0 1 rfl) (fun r q => Ft2 32 r q rfl) (fun r q => Ft2 33 r q rfl)
  have Et2 : pm_LE t2 := fun q a b => ⟨(Ft2 36 0 q rfl).trans ((E0 q a b).1.trans (Ft2 64 0 q rfl).symm), (Ft2 37 0 q rfl).trans ((E0 q a b).2.trans (Ft2 65 0 q rfl).symm)⟩
  show G 982 [some (.inr (.inr (1000, 0))), some (.inr (.inr (0, 0))), some (.inr (.inr (40, 0))), some (.inl i)] [.inl x4] 122 t2
  refine px_popi hG dL_law_982 ?_
  refine px_aload_n hG dL_law_983 rfl ?_
  refine px_aload_n hG dL_law_984 rfl ?_
  refine px_iload_n hG dL_law_985 rfl ?_
  refine px_iconst hG dL_law_986 ?_
  refine px_iadd hG dL_law_987 ?_
  refine px_sld hG dL_law_988 ⟨by omega, by show _ < sl; omega⟩ ?_
  show G 989 [some (.inr (.inr (1000, 0))), some (.inr (.inr (0, 0))), some (.inr (.inr (40, 0))), some (.inl i)] [.inl (sx (i + 1)), .inr (.inr (40, 0))] 122 t2
  refine px_aload_n hG dL_law_989 rfl ?_
  refine px_iload_n hG dL_law_990 rfl ?_
  refine px_iconst hG dL_law_991 ?_
  refine px_iadd hG dL_law_992 ?_
  refine px_sld hG dL_law_993 ⟨by omega, by show _ < sl; omega⟩ ?_
  show G 994 [some (.inr (.inr (1000, 0))), some (.inr (.inr (0, 0))), some (.inr (.inr (40, 0))), some (.inl i)] [.inl (sx (i + 2)), .inl (sx (i + 1)), .inr (.inr (40, 0))] 122 t2
  refine px_aload_n hG dL_law_994 rfl ?_
  refine px_iload_n hG dL_law_995 rfl ?_
  refine px_iconst hG dL_law_996 ?_
  refine px_iadd hG dL_law_997 ?_
  refine px_sld hG dL_law_998 ⟨by omega, by show _ < sl; omega⟩ ?_
  show G 999 [some (.inr (.inr (1000, 0))), some (.inr (.inr (0, 0))), some (.inr (.inr (40, 0))), some (.inl i)] [.inl (sx (i + 3)), .inl (sx (i + 2)), .inl (sx (i + 1)), .inr (.inr (40, 0))] 122 t2
  refine jv3 hG dL_law_999 ct_X11_both lk_L_149 ⟨rfl, rfl⟩ (by decide) ⟨Nat.le_of_ble_eq_true rfl, Nat.le_of_ble_eq_true rfl, Nat.le_of_ble_eq_true rfl⟩ (Nat.le_of_ble_eq_true rfl) ⟨(sx (i + 1)), (sx (i + 2)), (sx (i + 3)), rfl, rfl, Rt2, ⟨hx _, hx _, hx _⟩, Jt2⟩ (fun r5 t6 p7 => ?_)
  obtain ⟨x8, rfl, Rt6, Ft6, bt6⟩ := p7 _ _ _ rfl
  have Ct6 := pm_CH_eq (fun q => Ft6 46 0 q rfl) Ct2
  have Kt6 : pm_K1 t6 := pm_K1_c Kt2 (Ft6 3 0 0 rfl) (Ft6 3 0 1 rfl) (Ft6 3 0 2 rfl) (Ft6 3 0 3 rfl)
  have Jt6 := bt6
  have Pt6 : pm_SP t6 := pm_SP_c Pt2 (fun r q => Ft6 2 r q rfl) (Ft6 31 0 1 rfl) (fun r q => Ft6 32 r q rfl) (fun r q => Ft6 33 r q rfl)
  have Et6 : pm_LE t6 := fun q a b => ⟨(Ft6 36 0 q rfl).trans ((Et2 q a b).1.trans (Ft6 64 0 q rfl).symm), (Ft6 37 0 q rfl).trans ((Et2 q a b).2.trans (Ft6 65 0 q rfl).symm)⟩
  show G 1002 [some (.inr (.inr (1000, 0))), some (.inr (.inr (0, 0))), some (.inr (.inr (40, 0))), some (.inl i)] [.inl x8] 122 t6
  refine px_popi hG dL_law_1002 ?_
  refine px_goto hG dL_law_1003 (tgt := 1265) (by decide) ?_
  exact kk t6 ⟨Rt6, Kt6, Jt6, Ct6, Et6, Pt6⟩
theorem lw_c32 {sl : Int} {sx : Int → Int} {G : pm_G} (hG : pm_Rules (pm_EL sl sx) G) (hx : ∀ i : Int, -2147483648 ≤ sx i ∧ sx i ≤ 2147483647) {i : Int} (h0 : 0 ≤ i) (h1 : i + 4 < sl) {s0 : pm_H} (LI : pm_lwI s0) (kk : ∀ t : pm_H, pm_lwI t → G 1265 [some (.inr (.inr (1000, 0))), some (.inr (.inr (0, 0))), some (.inr (.inr (40, 0))), some (.inl i)] [] 122 t) : G 1006 [some (.inr (.inr (1000, 0))), some (.inr (.inr (0, 0))), some (.inr (.inr (40, 0))), some (.inl i)] [] 122 s0 := by
  obtain ⟨R0, K0, J0, C0, E0, P0⟩ := LI
  refine px_aload_n hG dL_law_1006 rfl ?_
  refine px_aload_n hG dL_law_1007 rfl ?_
  refine px_iload_n hG dL_law_1008 rfl ?_
  refine px_iconst hG dL_law_1009 ?_
  refine px_iadd hG dL_law_1010 ?_
  refine px_sld hG dL_law_1011 ⟨by omega, by show _ < sl; omega⟩ ?_
  show G 1012 [some (.inr (.inr (1000, 0))), some (.inr (.inr (0, 0))), some (.inr (.inr (40, 0))), some (.inl i)] [.inl (sx (i + 1)), .inr (.inr (0, 0))] 122 s0
  refine px_aload_n hG dL_law_1012 rfl ?_
  refine px_iload_n hG dL_law_1013 rfl ?_
  refine px_iconst hG dL_law_1014 ?_
  refine px_iadd hG dL_law_1015 ?_
  refine px_sld hG dL_law_1016 ⟨by omega, by show _ < sl; omega⟩ ?_
  show G 1017 [some (.inr (.inr (1000, 0))), some (.inr (.inr (0, 0))), some (.inr (.inr (40, 0))), some (.inl i)] [.inl (sx (i + 2)), .inl (sx (i + 1)), .inr (.inr (0, 0))] 122 s0
  refine px_aload_n hG dL_law_1017 rfl ?_
  refine px_iload_n hG dL_law_1018 rfl ?_
  refine px_iconst hG dL_law_1019 ?_
  refine px_iadd hG dL_law_1020 ?_
  refine px_sld hG dL_law_1021 ⟨by omega, by show _ < sl; omega⟩ ?_
  show G 1022 [some (.inr (.inr (1000, 0))), some (.inr (.inr (0, 0))), some (.inr (.inr (40, 0))), some (.inl i)] [.inl (sx (i + 3)), .inl (sx (i + 2)), .inl (sx (i + 1)), .inr (.inr (0, 0))] 122 s0
  refine jv3 hG dL_law_1022 ct_X10_spreade lk_L_150 ⟨rfl, rfl⟩ (by decide) ⟨Nat.le_of_ble_eq_true rfl, Nat.le_of_ble_eq_true rfl, Nat.le_of_ble_eq_true rfl⟩ (Nat.le_of_ble_eq_true rfl) ⟨(sx (i + 1)), (sx (i + 2)), (sx (i + 3)), rfl, rfl, R0, hx _, hx _, hx _, K0, P0.1, P0.2⟩ (fun r1 t2 p3 => ?_)
  obtain ⟨y4, rfl, Rt2, Ft2, bt2⟩ := p3 _ _ _ rfl
  have Ct2 := pm_CH_eq (fun q => Ft2 46 0 q rfl) C0
  have Kt2 : pm_K1 t2 := bt2.1
  have Jt2 := pm_J2_fr Ft2 rfl J0
  have Pt2 : pm_SP t2 := ⟨bt2.2.1, bt2.2.2.1⟩
  have Et2 : pm_LE t2 := fun q a b => ⟨(Ft2 36 0 q rfl).trans ((E0 q a b).1.trans (Ft2 64 0 q rfl).symm), (Ft2 37 0 q rfl).trans ((E0 q a b).2.trans (Ft2 65 0 q rfl).symm)⟩
  show G 1025 [some (.inr (.inr (1000, 0))), some (.inr (.inr (0, 0))), some (.inr (.inr (40, 0))), some (.inl i)] [.inr (.inl y4)] 122 t2
  refine px_aload_n hG dL_law_1025 rfl ?_
  refine px_aload_n hG dL_law_1026 rfl ?_
  refine px_iload_n hG dL_law_1027 rfl ?_
  refine px_iconst hG dL_law_1028 ?_
  refine px_iadd hG dL_law_1029 ?_
  refine px_sld hG dL_law_1030 ⟨by omega, by show _ < sl; omega⟩ ?_
  show G 1031 [some (.inr (.inr (1000, 0))), some (.inr (.inr (0, 0))), some (.inr (.inr (40, 0))), some (.inl i)] [.inl (sx (i + 1)), .inr (.inr (40, 0)), .inr (.inl y4)] 122 t2
  refine px_aload_n hG dL_law_1031 rfl ?_
  refine px_iload_n hG dL_law_1032 rfl ?_
  refine px_iconst hG dL_law_1033 ?_
  refine px_iadd hG dL_law_1034 ?_
  refine px_sld hG dL_law_1035 ⟨by omega, by show _ < sl; omega⟩ ?_
  show G 1036 [some (.inr (.inr (1000, 0))), some (.inr (.inr (0, 0))), some (.inr (.inr (40, 0))), some (.inl i)] [.inl (sx (i + 2)), .inl (sx (i + 1)), .inr (.inr (40, 0)), .inr (.inl y4)] 122 t2
  refine px_aload_n hG dL_law_1036 rfl ?_
  refine px_iload_n hG dL_law_1037 rfl ?_
  refine px_iconst hG dL_law_1038 ?_
  refine px_iadd hG dL_law_1039 ?_
  refine px_sld hG dL_law_1040 ⟨by omega, by show _ < sl; omega⟩ ?_
  show G 1041 [some (.inr (.inr (1000, 0))), some (.inr (.inr (0, 0))), some (.inr (.inr (40, 0))), some (.inl i)] [.inl (sx (i + 3)), .inl (sx (i + 2)), .inl (sx (i + 1)), .inr (.inr (40, 0)), .inr (.inl y4)] 122 t2
  refine jv3 hG dL_law_1041 ct_X11_spreade lk_L_154 ⟨rfl, rfl⟩ (by decide) ⟨Nat.le_of_ble_eq_true rfl, Nat.le_of_ble_eq_true rfl, Nat.le_of_ble_eq_true rfl⟩ (Nat.le_of_ble_eq_true rfl) ⟨(sx (i + 1)), (sx (i + 2)), (sx (i + 3)), rfl, rfl, Rt2, ⟨hx _, hx _, hx _, Ct2⟩, Jt2⟩ (fun r5 t6 p7 => ?_)
  obtain ⟨y8, rfl, Rt6, Ft6, bt6⟩ := p7 _ _ _ rfl
  have Ct6 := pm_CH_eq (fun q => Ft6 46 0 q rfl) Ct2
  have Kt6 : pm_K1 t6 := pm_K1_c Kt2 (Ft6 3 0 0 rfl) (Ft6 3 0 1 rfl) (Ft6 3 0 2 rfl) (Ft6 3 0 3 rfl)
  have Jt6 := pm_J2_fr Ft6 rfl Jt2
  have Pt6 : pm_SP t6 := pm_SP_c Pt2 (fun r q => Ft6 2 r q rfl) (Ft6 31 0 1 rfl) (fun r q => Ft6 32 r q rfl) (fun r q => Ft6 33 r q rfl)
  have Et6 : pm_LE t6 := fun q a b => ⟨(Ft6 36 0 q rfl).trans ((Et2 q a b).1.trans (Ft6 64 0 q rfl).symm), (Ft6 37 0 q rfl).trans ((Et2 q a b).2.trans (Ft6 65 0 q rfl).symm)⟩
  show G 1044 [some (.inr (.inr (1000, 0))), some (.inr (.inr (0, 0))), some (.inr (.inr (40, 0))), some (.inl i)] [.inr (.inl y8), .inr (.inl y4)] 122 t6
  refine px_lcmpA hG dL_law_1044 (fun x9 bx9 cx9 => ?_)
  refine px_if_eq hG dL_law_1045 (tgt := 1265) (by decide) ⟨by omega, by omega⟩ (fun _ => ?_) (fun c => absurd (cx9 ((bt2.2.2.2).trans (bt6).symm)) c)
  exact kk t6 ⟨Rt6, Kt6, Jt6, Ct6, Et6, Pt6⟩
theorem lw_c33 {sl : Int} {sx : Int → Int} {G : pm_G} (hG : pm_Rules (pm_EL sl sx) G) (hx : ∀ i : Int, -2147483648 ≤ sx i ∧ sx i ≤ 2147483647) {i : Int} (h0 : 0 ≤ i) (h1 : i + 4 < sl) {s0 : pm_H} (LI : pm_lwI s0) (kk : ∀ t : pm_H, pm_lwI t → G 1265 [some (.inr (.inr (1000, 0))), some (.inr (.inr (0, 0))), some (.inr (.inr (40, 0))), some (.inl i)] [] 122 t) : G 1050 [some (.inr (.inr (1000, 0))), some (.inr (.inr (0, 0))), some (.inr (.inr (40, 0))), some (.inl i)] [] 122 s0 := by
  obtain ⟨R0, K0, J0, C0, E0, P0⟩ := LI
  refine px_aload_n hG dL_law_1050 rfl ?_
  refine px_aload_n hG dL_law_1051 rfl ?_
  refine px_iload_n hG dL_law_1052 rfl ?_
  refine px_iconst hG dL_law_1053 ?_
  refine px_iadd hG dL_law_1054 ?_
  refine px_sld hG dL_law_1055 ⟨by omega, by show _ < sl; omega⟩ ?_
  show G 1056 [some (.inr (.inr (1000, 0))), some (.inr (.inr (0, 0))), some (.inr (.inr (40, 0))), some (.inl i)] [.inl (sx (i + 1)), .inr (.inr (0, 0))] 122 s0
  refine px_aload_n hG dL_law_1056 rfl ?_
  refine px_iload_n hG dL_law_1057 rfl ?_
  refine px_iconst hG dL_law_1058 ?_
  refine px_iadd hG dL_law_1059 ?_
  refine px_sld hG dL_law_1060 ⟨by omega, by show _ < sl; omega⟩ ?_
  show G 1061 [some (.inr (.inr (1000, 0))), some (.inr (.inr (0, 0))), some (.inr (.inr (40, 0))), some (.inl i)] [.inl (sx (i + 2)), .inl (sx (i + 1)), .inr (.inr (0, 0))] 122 s0
  refine px_aload_n hG dL_law_1061 rfl ?_
  refine px_iload_n hG dL_law_1062 rfl ?_
  refine px_iconst hG dL_law_1063 ?_
  refine px_iadd hG dL_law_1064 ?_
  refine px_sld hG dL_law_1065 ⟨by omega, by show _ < sl; omega⟩ ?_
  show G 1066 [some (.inr (.inr (1000, 0))), some (.inr (.inr (0, 0))), some (.inr (.inr (40, 0))), some (.inl i)] [.inl (sx (i + 3)), .inl (sx (i + 2)), .inl (sx (i + 1)), .inr (.inr (0, 0))] 122 s0
  refine jv3 hG dL_law_1066 ct_X10_sheete lk_L_155 ⟨rfl, rfl⟩ (by decide) ⟨Nat.le_of_ble_eq_true rfl, Nat.le_of_ble_eq_true rfl, Nat.le_of_ble_eq_true rfl⟩ (Nat.le_of_ble_eq_true rfl) ⟨(sx (i + 1)), (sx (i + 2)), (sx (i + 3)), rfl, rfl, R0, hx _, hx _, hx _, K0⟩ (fun r1 t2 p3 => ?_)
  obtain ⟨x4, rfl, Rt2, Ft2, bt2⟩ := p3 _ _ _ rfl
  have Ct2 := pm_CH_eq (fun q => Ft2 46 0 q rfl) C0
  have Kt2 : pm_K1 t2 := bt2.1
  have Jt2 := pm_J2_fr Ft2 rfl J0
  have Pt2 : pm_SP t2 := pm_SP_c P0 (fun r q => Ft2 2 r q rfl) (Ft2 31 0 1 rfl) (fun r q => Ft2 32 r q rfl) (fun r q => Ft2 33 r q rfl)
  have Xt2 := bt2.2
  show G 1069 [some (.inr (.inr (1000, 0))), some (.inr (.inr (0, 0))), some (.inr (.inr (40, 0))), some (.inl i)] [.inl x4] 122 t2
  refine px_popi hG dL_law_1069 ?_
  refine px_aload_n hG dL_law_1070 rfl ?_
  refine px_aload_n hG dL_law_1071 rfl ?_
  refine px_iload_n hG dL_law_1072 rfl ?_
  refine px_iconst hG dL_law_1073 ?_
  refine px_iadd hG dL_law_1074 ?_
  refine px_sld hG dL_law_1075 ⟨by omega, by show _ < sl; omega⟩ ?_
  show G 1076 [some (.inr (.inr (1000, 0))), some (.inr (.inr (0, 0))), some (.inr (.inr (40, 0))), some (.inl i)] [.inl (sx (i + 1)), .inr (.inr (40, 0))] 122 t2
  refine px_aload_n hG dL_law_1076 rfl ?_
  refine px_iload_n hG dL_law_1077 rfl ?_
  refine px_iconst hG dL_law_1078 ?_
  refine px_iadd hG dL_law_1079 ?_
  refine px_sld hG dL_law_1080 ⟨by omega, by show _ < sl; omega⟩ ?_
  show G 1081 [some (.inr (.inr (1000, 0))), some (.inr (.inr (0, 0))), some (.inr (.inr (40, 0))), some (.inl i)] [.inl (sx (i + 2)), .inl (sx (i + 1)), .inr (.inr (40, 0))] 122 t2
  refine px_aload_n hG dL_law_1081 rfl ?_
  refine px_iload_n hG dL_law_1082 rfl ?_
  refine px_iconst hG dL_law_1083 ?_
  refine px_iadd hG dL_law_1084 ?_
  refine px_sld hG dL_law_1085 ⟨by omega, by show _ < sl; omega⟩ ?_
  show G 1086 [some (.inr (.inr (1000, 0))), some (.inr (.inr (0, 0))), some (.inr (.inr (40, 0))), some (.inl i)] [.inl (sx (i + 3)), .inl (sx (i + 2)), .inl (sx (i + 1)), .inr (.inr (40, 0))] 122 t2
  refine jv3 hG dL_law_1086 ct_X11_sheete lk_L_158 ⟨rfl, rfl⟩ (by decide) ⟨Nat.le_of_ble_eq_true rfl, Nat.le_of_ble_eq_true rfl, Nat.le_of_ble_eq_true rfl⟩ (Nat.le_of_ble_eq_true rfl) ⟨(sx (i + 1)), (sx (i + 2)), (sx (i + 3)), rfl, rfl, Rt2, ⟨hx _, hx _, hx _⟩, Jt2⟩ (fun r5 t6 p7 => ?_)
  obtain ⟨x8, rfl, Rt6, Ft6, bt6⟩ := p7 _ _ _ rfl
  have Ct6 := pm_CH_eq (fun q => Ft6 46 0 q rfl) Ct2
  have Kt6 : pm_K1 t6 := pm_K1_c Kt2 (Ft6 3 0 0 rfl) (Ft6 3 0 1 rfl) (Ft6 3 0 2 rfl) (Ft6 3 0 3 rfl)
  have Jt6 := pm_J2_fr Ft6 rfl Jt2
  have Pt6 : pm_SP t6 := pm_SP_c Pt2 (fun r q => Ft6 2 r q rfl) (Ft6 31 0 1 rfl) (fun r q => Ft6 32 r q rfl) (fun r q => Ft6 33 r q rfl)
  have Qt6 := pm_SH_LE Xt2 bt6 (fun q => ⟨Ft2 64 0 q rfl, Ft2 65 0 q rfl⟩) (fun q => ⟨Ft6 36 0 q rfl, Ft6 37 0 q rfl⟩) E0
  have Et6 := Qt6.2
  show G 1089 [some (.inr (.inr (1000, 0))), some (.inr (.inr (0, 0))), some (.inr (.inr (40, 0))), some (.inl i)] [.inl x8] 122 t6
  refine px_popi hG dL_law_1089 ?_
  refine px_goto hG dL_law_1090 (tgt := 1265) (by decide) ?_
  exact kk t6 ⟨Rt6, Kt6, Jt6, Ct6, Et6, Pt6⟩
theorem lw_c34 {sl : Int} {sx : Int → Int} {G : pm_G} (hG : pm_Rules (pm_EL sl sx) G) (hx : ∀ i : Int, -2147483648 ≤ sx i ∧ sx i ≤ 2147483647) {i : Int} (h0 : 0 ≤ i) (h1 : i + 4 < sl) {s0 : pm_H} (LI : pm_lwI s0) (kk : ∀ t : pm_H, pm_lwI t → G 1265 [some (.inr (.inr (1000, 0))), some (.inr (.inr (0, 0))), some (.inr (.inr (40, 0))), some (.inl i)] [] 122 t) : G 1093 [some (.inr (.inr (1000, 0))), some (.inr (.inr (0, 0))), some (.inr (.inr (40, 0))), some (.inl i)] [] 122 s0 := by
  obtain ⟨R0, K0, J0, C0, E0, P0⟩ := LI
  refine px_aload_n hG dL_law_1093 rfl ?_
  refine px_aload_n hG dL_law_1094 rfl ?_
  refine px_iload_n hG dL_law_1095 rfl ?_
  refine px_iconst hG dL_law_1096 ?_
  refine px_iadd hG dL_law_1097 ?_
  refine px_sld hG dL_law_1098 ⟨by omega, by show _ < sl; omega⟩ ?_
  show G 1099 [some (.inr (.inr (1000, 0))), some (.inr (.inr (0, 0))), some (.inr (.inr (40, 0))), some (.inl i)] [.inl (sx (i + 1)), .inr (.inr (0, 0))] 122 s0
  refine jv1 hG dL_law_1099 ct_X10_drope lk_L_159 ⟨rfl, rfl⟩ (by decide) ⟨Nat.le_of_ble_eq_true rfl, Nat.le_of_ble_eq_true rfl, Nat.le_of_ble_eq_true rfl⟩ (Nat.le_of_ble_eq_true rfl) ⟨(sx (i + 1)), rfl, rfl, R0, hx _, K0⟩ (fun r1 t2 p3 => ?_)
  obtain ⟨x4, rfl, Rt2, Ft2, bt2⟩ := p3 _ rfl
  have Ct2 := pm_CH_eq (fun q => Ft2 46 0 q rfl) C0
  have Kt2 : pm_K1 t2 := bt2.1
  have Jt2 := pm_J2_fr Ft2 rfl J0
  have Pt2 : pm_SP t2 := pm_SP_c P0 (fun r q => Ft2 2 r q rfl) (Ft2 31 0 1 rfl) (fun r q => Ft2 32 r q rfl) (fun r q => Ft2 33 r q rfl)
  have Xt2 := bt2.2
  show G 1102 [some (.inr (.inr (1000, 0))), some (.inr (.inr (0, 0))), some (.inr (.inr (40, 0))), some (.inl i)] [.inl x4] 122 t2
  refine px_popi hG dL_law_1102 ?_
  refine px_aload_n hG dL_law_1103 rfl ?_
  refine px_aload_n hG dL_law_1104 rfl ?_
  refine px_iload_n hG dL_law_1105 rfl ?_
  refine px_iconst hG dL_law_1106 ?_
  refine px_iadd hG dL_law_1107 ?_
  refine px_sld hG dL_law_1108 ⟨by omega, by show _ < sl; omega⟩ ?_
  show G 1109 [some (.inr (.inr (1000, 0))), some (.inr (.inr (0, 0))), some (.inr (.inr (40, 0))), some (.inl i)] [.inl (sx (i + 1)), .inr (.inr (40, 0))] 122 t2
  refine jv1 hG dL_law_1109 ct_X11_drope lk_L_162 ⟨rfl, rfl⟩ (by decide) ⟨Nat.le_of_ble_eq_true rfl, Nat.le_of_ble_eq_true rfl, Nat.le_of_ble_eq_true rfl⟩ (Nat.le_of_ble_eq_true rfl) ⟨(sx (i + 1)), rfl, rfl, Rt2, hx _, Jt2⟩ (fun r5 t6 p7 => ?_)
  obtain ⟨x8, rfl, Rt6, Ft6, bt6⟩ := p7 _ rfl
  have Ct6 := pm_CH_eq (fun q => Ft6 46 0 q rfl) Ct2
  have Kt6 : pm_K1 t6 := pm_K1_c Kt2 (Ft6 3 0 0 rfl) (Ft6 3 0 1 rfl) (Ft6 3 0 2 rfl) (Ft6 3 0 3 rfl)
  have Jt6 := pm_J2_fr Ft6 rfl Jt2
  have Pt6 : pm_SP t6 := pm_SP_c Pt2 (fun r q => Ft6 2 r q rfl) (Ft6 31 0 1 rfl) (fun r q => Ft6 32 r q rfl) (fun r q => Ft6 33 r q rfl)
  have Qt6 := pm_DR_LE Xt2 bt6 (fun q => ⟨Ft2 64 0 q rfl, Ft2 65 0 q rfl⟩) (fun q => ⟨Ft6 36 0 q rfl, Ft6 37 0 q rfl⟩) E0
  have Et6 := Qt6.2
  show G 1112 [some (.inr (.inr (1000, 0))), some (.inr (.inr (0, 0))), some (.inr (.inr (40, 0))), some (.inl i)] [.inl x8] 122 t6
  refine px_popi hG dL_law_1112 ?_
  refine px_goto hG dL_law_1113 (tgt := 1265) (by decide) ?_
  exact kk t6 ⟨Rt6, Kt6, Jt6, Ct6, Et6, Pt6⟩
theorem lw_c35 {sl : Int} {sx : Int → Int} {G : pm_G} (hG : pm_Rules (pm_EL sl sx) G) (hx : ∀ i : Int, -2147483648 ≤ sx i ∧ sx i ≤ 2147483647) {i : Int} (h0 : 0 ≤ i) (h1 : i + 4 < sl) {s0 : pm_H} (LI : pm_lwI s0) (kk : ∀ t : pm_H, pm_lwI t → G 1265 [some (.inr (.inr (1000, 0))), some (.inr (.inr (0, 0))), some (.inr (.inr (40, 0))), some (.inl i)] [] 122 t) : G 1116 [some (.inr (.inr (1000, 0))), some (.inr (.inr (0, 0))), some (.inr (.inr (40, 0))), some (.inl i)] [] 122 s0 := by
  obtain ⟨R0, K0, J0, C0, E0, P0⟩ := LI
  refine px_aload_n hG dL_law_1116 rfl ?_
  refine px_aload_n hG dL_law_1117 rfl ?_
  refine px_iload_n hG dL_law_1118 rfl ?_
  refine px_iconst hG dL_law_1119 ?_
  refine px_iadd hG dL_law_1120 ?_
  refine px_sld hG dL_law_1121 ⟨by omega, by show _ < sl; omega⟩ ?_
  show G 1122 [some (.inr (.inr (1000, 0))), some (.inr (.inr (0, 0))), some (.inr (.inr (40, 0))), some (.inl i)] [.inl (sx (i + 1)), .inr (.inr (0, 0))] 122 s0
  refine px_aload_n hG dL_law_1122 rfl ?_
  refine px_iload_n hG dL_law_1123 rfl ?_
  refine px_iconst hG dL_law_1124 ?_
  refine px_iadd hG dL_law_1125 ?_
  refine px_sld hG dL_law_1126 ⟨by omega, by show _ < sl; omega⟩ ?_
  show G 1127 [some (.inr (.inr (1000, 0))), some (.inr (.inr (0, 0))), some (.inr (.inr (40, 0))), some (.inl i)] [.inl (sx (i + 2)), .inl (sx (i + 1)), .inr (.inr (0, 0))] 122 s0
  refine px_aload_n hG dL_law_1127 rfl ?_
  refine px_iload_n hG dL_law_1128 rfl ?_
  refine px_iconst hG dL_law_1129 ?_
  refine px_iadd hG dL_law_1130 ?_
  refine px_sld hG dL_law_1131 ⟨by omega, by show _ < sl; omega⟩ ?_
  show G 1132 [some (.inr (.inr (1000, 0))), some (.inr (.inr (0, 0))), some (.inr (.inr (40, 0))), some (.inl i)] [.inl (sx (i + 3)), .inl (sx (i + 2)), .inl (sx (i + 1)), .inr (.inr (0, 0))] 122 s0
  refine px_aload_n hG dL_law_1132 rfl ?_
  refine px_iload_n hG dL_law_1133 rfl ?_
  refine px_iconst hG dL_law_1134 ?_
  refine px_iadd hG dL_law_1135 ?_
  refine px_sld hG dL_law_1136 ⟨by omega, by show _ < sl; omega⟩ ?_
  show G 1137 [some (.inr (.inr (1000, 0))), some (.inr (.inr (0, 0))), some (.inr (.inr (40, 0))), some (.inl i)] [.inl (sx (i + 4)), .inl (sx (i + 3)), .inl (sx (i + 2)), .inl (sx (i + 1)), .inr (.inr (0, 0))] 122 s0
  refine jv4 hG dL_law_1137 ct_X10_iteme lk_L_163 ⟨rfl, rfl⟩ (by decide) ⟨Nat.le_of_ble_eq_true rfl, Nat.le_of_ble_eq_true rfl, Nat.le_of_ble_eq_true rfl⟩ (Nat.le_of_ble_eq_true rfl) ⟨(sx (i + 1)), (sx (i + 2)), (sx (i + 3)), (sx (i + 4)), rfl, rfl, R0, hx _, hx _, hx _, hx _, K0⟩ (fun r1 t2 p3 => ?_)
  obtain ⟨x4, rfl, Rt2, Ft2, bt2⟩ := p3 _ _ _ _ rfl
  have Ct2 := pm_CH_eq (fun q => Ft2 46 0 q rfl) C0
  have Kt2 : pm_K1 t2 := bt2.1
  have Jt2 := pm_J2_fr Ft2 rfl J0
  have Pt2 : pm_SP t2 := pm_SP_c P0 (fun r q => Ft2 2 r q rfl) (Ft2 31 0 1 rfl) (fun r q => Ft2 32 r q rfl) (fun r q => Ft2 33 r q rfl)
  have Et2 : pm_LE t2 := fun q a b => ⟨(Ft2 36 0 q rfl).trans ((E0 q a b).1.trans (Ft2 64 0 q rfl).symm), (Ft2 37 0 q rfl).trans ((E0 q a b).2.trans (Ft2 65 0 q rfl).symm)⟩
  have Xt2 := bt2.2
  show G 1140 [some (.inr (.inr (1000, 0))), some (.inr (.inr (0, 0))), some (.inr (.inr (40, 0))), some (.inl i)] [.inl x4] 122 t2
  refine px_popi hG dL_law_1140 ?_
  refine px_aload_n hG dL_law_1141 rfl ?_
  refine px_aload_n hG dL_law_1142 rfl ?_
  refine px_iload_n hG dL_law_1143 rfl ?_
  refine px_iconst hG dL_law_1144 ?_
  refine px_iadd hG dL_law_1145 ?_
  refine px_sld hG dL_law_1146 ⟨by omega, by show _ < sl; omega⟩ ?_
  show G 1147 [some (.inr (.inr (1000, 0))), some (.inr (.inr (0, 0))), some (.inr (.inr (40, 0))), some (.inl i)] [.inl (sx (i + 1)), .inr (.inr (40, 0))] 122 t2
  refine px_aload_n hG dL_law_1147 rfl ?_
  refine px_iload_n hG dL_law_1148 rfl ?_
  refine px_iconst hG dL_law_1149 ?_
  refine px_iadd hG dL_law_1150 ?_
  refine px_sld hG dL_law_1151 ⟨by omega, by show _ < sl; omega⟩ ?_
  show G 1152 [some (.inr (.inr (1000, 0))), some (.inr (.inr (0, 0))), some (.inr (.inr (40, 0))), some (.inl i)] [.inl (sx (i + 2)), .inl (sx (i + 1)), .inr (.inr (40, 0))] 122 t2
  refine px_aload_n hG dL_law_1152 rfl ?_
  refine px_iload_n hG dL_law_1153 rfl ?_
  refine px_iconst hG dL_law_1154 ?_
  refine px_iadd hG dL_law_1155 ?_
  refine px_sld hG dL_law_1156 ⟨by omega, by show _ < sl; omega⟩ ?_
  show G 1157 [some (.inr (.inr (1000, 0))), some (.inr (.inr (0, 0))), some (.inr (.inr (40, 0))), some (.inl i)] [.inl (sx (i + 3)), .inl (sx (i + 2)), .inl (sx (i + 1)), .inr (.inr (40, 0))] 122 t2
  refine px_aload_n hG dL_law_1157 rfl ?_
  refine px_iload_n hG dL_law_1158 rfl ?_
  refine px_iconst hG dL_law_1159 ?_
  refine px_iadd hG dL_law_1160 ?_
  refine px_sld hG dL_law_1161 ⟨by omega, by show _ < sl; omega⟩ ?_
  show G 1162 [some (.inr (.inr (1000, 0))), some (.inr (.inr (0, 0))), some (.inr (.inr (40, 0))), some (.inl i)] [.inl (sx (i + 4)), .inl (sx (i + 3)), .inl (sx (i + 2)), .inl (sx (i + 1)), .inr (.inr (40, 0))] 122 t2
  refine jv4 hG dL_law_1162 ct_X11_iteme lk_L_167 ⟨rfl, rfl⟩ (by decide) ⟨Nat.le_of_ble_eq_true rfl, Nat.le_of_ble_eq_true rfl, Nat.le_of_ble_eq_true rfl⟩ (Nat.le_of_ble_eq_true rfl) ⟨(sx (i + 1)), (sx (i + 2)), (sx (i + 3)), (sx (i + 4)), rfl, rfl, Rt2, ⟨hx _, hx _, hx _, hx _⟩, Jt2⟩ (fun r5 t6 p7 => ?_)
  obtain ⟨x8, rfl, Rt6, Ft6, bt6⟩ := p7 _ _ _ _ rfl
  have Ct6 := pm_CH_eq (fun q => Ft6 46 0 q rfl) Ct2
  have Kt6 : pm_K1 t6 := pm_K1_c Kt2 (Ft6 3 0 0 rfl) (Ft6 3 0 1 rfl) (Ft6 3 0 2 rfl) (Ft6 3 0 3 rfl)
  have Jt6 := pm_J2_fr Ft6 rfl Jt2
  have Pt6 : pm_SP t6 := pm_SP_c Pt2 (fun r q => Ft6 2 r q rfl) (Ft6 31 0 1 rfl) (fun r q => Ft6 32 r q rfl) (fun r q => Ft6 33 r q rfl)
  have Et6 : pm_LE t6 := fun q a b => ⟨(Ft6 36 0 q rfl).trans ((Et2 q a b).1.trans (Ft6 64 0 q rfl).symm), (Ft6 37 0 q rfl).trans ((Et2 q a b).2.trans (Ft6 65 0 q rfl).symm)⟩
  have Qt6 := pm_IT_eq Xt2 bt6 (fun q => ⟨Ft2 64 0 q rfl, Ft2 65 0 q rfl⟩) E0
  show G 1165 [some (.inr (.inr (1000, 0))), some (.inr (.inr (0, 0))), some (.inr (.inr (40, 0))), some (.inl i)] [.inl x8] 122 t6
  refine px_popi hG dL_law_1165 ?_
  refine px_goto hG dL_law_1166 (tgt := 1265) (by decide) ?_
  exact kk t6 ⟨Rt6, Kt6, Jt6, Ct6, Et6, Pt6⟩
theorem lw_c36 {sl : Int} {sx : Int → Int} {G : pm_G} (hG : pm_Rules (pm_EL sl sx) G) (hx : ∀ i : Int, -2147483648 ≤ sx i ∧ sx i ≤ 2147483647) {i : Int} (h0 : 0 ≤ i) (h1 : i + 4 < sl) {s0 : pm_H} (LI : pm_lwI s0) (kk : ∀ t : pm_H, pm_lwI t → G 1265 [some (.inr (.inr (1000, 0))), some (.inr (.inr (0, 0))), some (.inr (.inr (40, 0))), some (.inl i)] [] 122 t) : G 1169 [some (.inr (.inr (1000, 0))), some (.inr (.inr (0, 0))), some (.inr (.inr (40, 0))), some (.inl i)] [] 122 s0 := by
  obtain ⟨R0, K0, J0, C0, E0, P0⟩ := LI
  refine px_aload_n hG dL_law_1169 rfl ?_
  refine px_aload_n hG dL_law_1170 rfl ?_
  refine px_iload_n hG dL_law_1171 rfl ?_
  refine px_iconst hG dL_law_1172 ?_
  refine px_iadd hG dL_law_1173 ?_
  refine px_sld hG dL_law_1174 ⟨by omega, by show _ < sl; omega⟩ ?_
  show G 1175 [some (.inr (.inr (1000, 0))), some (.inr (.inr (0, 0))), some (.inr (.inr (40, 0))), some (.inl i)] [.inl (sx (i + 1)), .inr (.inr (0, 0))] 122 s0
  refine px_aload_n hG dL_law_1175 rfl ?_
  refine px_iload_n hG dL_law_1176 rfl ?_
  refine px_iconst hG dL_law_1177 ?_
  refine px_iadd hG dL_law_1178 ?_
  refine px_sld hG dL_law_1179 ⟨by omega, by show _ < sl; omega⟩ ?_
  show G 1180 [some (.inr (.inr (1000, 0))), some (.inr (.inr (0, 0))), some (.inr (.inr (40, 0))), some (.inl i)] [.inl (sx (i + 2)), .inl (sx (i + 1)), .inr (.inr (0, 0))] 122 s0
  refine px_aload_n hG dL_law_1180 rfl ?_
  refine px_iload_n hG dL_law_1181 rfl ?_
  refine px_iconst hG dL_law_1182 ?_
  refine px_iadd hG dL_law_1183 ?_
  refine px_sld hG dL_law_1184 ⟨by omega, by show _ < sl; omega⟩ ?_
  show G 1185 [some (.inr (.inr (1000, 0))), some (.inr (.inr (0, 0))), some (.inr (.inr (40, 0))), some (.inl i)] [.inl (sx (i + 3)), .inl (sx (i + 2)), .inl (sx (i + 1)), .inr (.inr (0, 0))] 122 s0
  refine px_aload_n hG dL_law_1185 rfl ?_
  refine px_iload_n hG dL_law_1186 rfl ?_
  refine px_iconst hG dL_law_1187 ?_
  refine px_iadd hG dL_law_1188 ?_
  refine px_sld hG dL_law_1189 ⟨by omega, by show _ < sl; omega⟩ ?_
  show G 1190 [some (.inr (.inr (1000, 0))), some (.inr (.inr (0, 0))), some (.inr (.inr (40, 0))), some (.inl i)] [.inl (sx (i + 4)), .inl (sx (i + 3)), .inl (sx (i + 2)), .inl (sx (i + 1)), .inr (.inr (0, 0))] 122 s0
  refine jv4 hG dL_law_1190 ct_X10_cars lk_L_168 ⟨rfl, rfl⟩ (by decide) ⟨Nat.le_of_ble_eq_true rfl, Nat.le_of_ble_eq_true rfl, Nat.le_of_ble_eq_true rfl⟩ (Nat.le_of_ble_eq_true rfl) ⟨(sx (i + 1)), (sx (i + 2)), (sx (i + 3)), (sx (i + 4)), rfl, rfl, R0, hx _, hx _, hx _, hx _, K0⟩ (fun r1 t2 p3 => ?_)
  obtain ⟨x4, rfl, Rt2, Ft2, bt2⟩ := p3 _ _ _ _ rfl
  have Ct2 := pm_CH_eq (fun q => Ft2 46 0 q rfl) C0
  have Kt2 : pm_K1 t2 := bt2
  have Jt2 := pm_J2_fr Ft2 rfl J0
  have Pt2 : pm_SP t2 := pm_SP_c P0 (fun r q => Ft2 2 r q rfl) (Ft2 31 0 1 rfl) (fun r q => Ft2 32 r q rfl) (fun r q => Ft2 33 r q rfl)
  have Et2 : pm_LE t2 := fun q a b => ⟨(Ft2 36 0 q rfl).trans ((E0 q a b).1.trans (Ft2 64 0 q rfl).symm), (Ft2 37 0 q rfl).trans ((E0 q a b).2.trans (Ft2 65 0 q rfl).symm)⟩
  show G 1193 [some (.inr (.inr (1000, 0))), some (.inr (.inr (0, 0))), some (.inr (.inr (40, 0))), some (.inl i)] [.inl x4] 122 t2
  refine px_popi hG dL_law_1193 ?_
  refine px_aload_n hG dL_law_1194 rfl ?_
  refine px_aload_n hG dL_law_1195 rfl ?_
  refine px_iload_n hG dL_law_1196 rfl ?_
  refine px_iconst hG dL_law_1197 ?_
  refine px_iadd hG dL_law_1198 ?_
  refine px_sld hG dL_law_1199 ⟨by omega, by show _ < sl; omega⟩ ?_
  show G 1200 [some (.inr (.inr (1000, 0))), some (.inr (.inr (0, 0))), some (.inr (.inr (40, 0))), some (.inl i)] [.inl (sx (i + 1)), .inr (.inr (40, 0))] 122 t2
  refine px_aload_n hG dL_law_1200 rfl ?_
  refine px_iload_n hG dL_law_1201 rfl ?_
  refine px_iconst hG dL_law_1202 ?_
  refine px_iadd hG dL_law_1203 ?_
  refine px_sld hG dL_law_1204 ⟨by omega, by show _ < sl; omega⟩ ?_
  show G 1205 [some (.inr (.inr (1000, 0))), some (.inr (.inr (0, 0))), some (.inr (.inr (40, 0))), some (.inl i)] [.inl (sx (i + 2)), .inl (sx (i + 1)), .inr (.inr (40, 0))] 122 t2
  refine px_aload_n hG dL_law_1205 rfl ?_
  refine px_iload_n hG dL_law_1206 rfl ?_
  refine px_iconst hG dL_law_1207 ?_
  refine px_iadd hG dL_law_1208 ?_
  refine px_sld hG dL_law_1209 ⟨by omega, by show _ < sl; omega⟩ ?_
  show G 1210 [some (.inr (.inr (1000, 0))), some (.inr (.inr (0, 0))), some (.inr (.inr (40, 0))), some (.inl i)] [.inl (sx (i + 3)), .inl (sx (i + 2)), .inl (sx (i + 1)), .inr (.inr (40, 0))] 122 t2
  refine px_aload_n hG dL_law_1210 rfl ?_
  refine px_iload_n hG dL_law_1211 rfl ?_
  refine px_iconst hG dL_law_1212 ?_
  refine px_iadd hG dL_law_1213 ?_
  refine px_sld hG dL_law_1214 ⟨by omega, by show _ < sl; omega⟩ ?_
  show G 1215 [some (.inr (.inr (1000, 0))), some (.inr (.inr (0, 0))), some (.inr (.inr (40, 0))), some (.inl i)] [.inl (sx (i + 4)), .inl (sx (i + 3)), .inl (sx (i + 2)), .inl (sx (i + 1)), .inr (.inr (40, 0))] 122 t2
  refine jv4 hG dL_law_1215 ct_X11_cars lk_L_171 ⟨rfl, rfl⟩ (by decide) ⟨Nat.le_of_ble_eq_true rfl, Nat.le_of_ble_eq_true rfl, Nat.le_of_ble_eq_true rfl⟩ (Nat.le_of_ble_eq_true rfl) ⟨(sx (i + 1)), (sx (i + 2)), (sx (i + 3)), (sx (i + 4)), rfl, rfl, Rt2, ⟨hx _, hx _, hx _, hx _⟩, Jt2⟩ (fun r5 t6 p7 => ?_)
  obtain ⟨x8, rfl, Rt6, Ft6, bt6⟩ := p7 _ _ _ _ rfl
  have Ct6 := pm_CH_eq (fun q => Ft6 46 0 q rfl) Ct2
  have Kt6 : pm_K1 t6 := pm_K1_c Kt2 (Ft6 3 0 0 rfl) (Ft6 3 0 1 rfl) (Ft6 3 0 2 rfl) (Ft6 3 0 3 rfl)
  have Jt6 := bt6
  have Pt6 : pm_SP t6 := pm_SP_c Pt2 (fun r q => Ft6 2 r q rfl) (Ft6 31 0 1 rfl) (fun r q => Ft6 32 r q rfl) (fun r q => Ft6 33 r q rfl)
  have Et6 : pm_LE t6 := fun q a b => ⟨(Ft6 36 0 q rfl).trans ((Et2 q a b).1.trans (Ft6 64 0 q rfl).symm), (Ft6 37 0 q rfl).trans ((Et2 q a b).2.trans (Ft6 65 0 q rfl).symm)⟩
  show G 1218 [some (.inr (.inr (1000, 0))), some (.inr (.inr (0, 0))), some (.inr (.inr (40, 0))), some (.inl i)] [.inl x8] 122 t6
  refine px_popi hG dL_law_1218 ?_
  refine px_goto hG dL_law_1219 (tgt := 1265) (by decide) ?_
  exact kk t6 ⟨Rt6, Kt6, Jt6, Ct6, Et6, Pt6⟩
theorem lw_c37 {sl : Int} {sx : Int → Int} {G : pm_G} (hG : pm_Rules (pm_EL sl sx) G) (hx : ∀ i : Int, -2147483648 ≤ sx i ∧ sx i ≤ 2147483647) {i : Int} (h0 : 0 ≤ i) (h1 : i + 4 < sl) {s0 : pm_H} (LI : pm_lwI s0) (kk : ∀ t : pm_H, pm_lwI t → G 1265 [some (.inr (.inr (1000, 0))), some (.inr (.inr (0, 0))), some (.inr (.inr (40, 0))), some (.inl i)] [] 122 t) : G 1222 [some (.inr (.inr (1000, 0))), some (.inr (.inr (0, 0))), some (.inr (.inr (40, 0))), some (.inl i)] [] 122 s0 := by
  obtain ⟨R0, K0, J0, C0, E0, P0⟩ := LI
  refine px_aload_n hG dL_law_1222 rfl ?_
  refine px_aload_n hG dL_law_1223 rfl ?_
  refine px_iload_n hG dL_law_1224 rfl ?_
  refine px_iconst hG dL_law_1225 ?_
  refine px_iadd hG dL_law_1226 ?_
  refine px_sld hG dL_law_1227 ⟨by omega, by show _ < sl; omega⟩ ?_
  show G 1228 [some (.inr (.inr (1000, 0))), some (.inr (.inr (0, 0))), some (.inr (.inr (40, 0))), some (.inl i)] [.inl (sx (i + 1)), .inr (.inr (0, 0))] 122 s0
  refine px_aload_n hG dL_law_1228 rfl ?_
  refine px_iload_n hG dL_law_1229 rfl ?_
  refine px_iconst hG dL_law_1230 ?_
  refine px_iadd hG dL_law_1231 ?_
  refine px_sld hG dL_law_1232 ⟨by omega, by show _ < sl; omega⟩ ?_
  show G 1233 [some (.inr (.inr (1000, 0))), some (.inr (.inr (0, 0))), some (.inr (.inr (40, 0))), some (.inl i)] [.inl (sx (i + 2)), .inl (sx (i + 1)), .inr (.inr (0, 0))] 122 s0
  refine px_aload_n hG dL_law_1233 rfl ?_
  refine px_iload_n hG dL_law_1234 rfl ?_
  refine px_iconst hG dL_law_1235 ?_
  refine px_iadd hG dL_law_1236 ?_
  refine px_sld hG dL_law_1237 ⟨by omega, by show _ < sl; omega⟩ ?_
  show G 1238 [some (.inr (.inr (1000, 0))), some (.inr (.inr (0, 0))), some (.inr (.inr (40, 0))), some (.inl i)] [.inl (sx (i + 3)), .inl (sx (i + 2)), .inl (sx (i + 1)), .inr (.inr (0, 0))] 122 s0
  refine jv3 hG dL_law_1238 ct_X10_keep lk_L_172 ⟨rfl, rfl⟩ (by decide) ⟨Nat.le_of_ble_eq_true rfl, Nat.le_of_ble_eq_true rfl, Nat.le_of_ble_eq_true rfl⟩ (Nat.le_of_ble_eq_true rfl) ⟨(sx (i + 1)), (sx (i + 2)), (sx (i + 3)), rfl, rfl, R0, hx _, hx _, hx _, K0⟩ (fun r1 t2 p3 => ?_)
  obtain ⟨x4, rfl, Rt2, Ft2, bt2⟩ := p3 _ _ _ rfl
  have Ct2 := pm_CH_eq (fun q => Ft2 46 0 q rfl) C0
  have Kt2 : pm_K1 t2 := bt2
  have Jt2 := pm_J2_fr Ft2 rfl J0
  have Pt2 : pm_SP t2 := pm_SP_c P0 (fun r q => Ft2 2 r q rfl) (Ft2 31 0 1 rfl) (fun r q => Ft2 32 r q rfl) (fun r q => Ft2 33 r q rfl)
  have Et2 : pm_LE t2 := fun q a b => ⟨(Ft2 36 0 q rfl).trans ((E0 q a b).1.trans (Ft2 64 0 q rfl).symm), (Ft2 37 0 q rfl).trans ((E0 q a b).2.trans (Ft2 65 0 q rfl).symm)⟩
  show G 1241 [some (.inr (.inr (1000, 0))), some (.inr (.inr (0, 0))), some (.inr (.inr (40, 0))), some (.inl i)] [.inl x4] 122 t2
  refine px_popi hG dL_law_1241 ?_
  refine px_aload_n hG dL_law_1242 rfl ?_
  refine px_aload_n hG dL_law_1243 rfl ?_
  refine px_iload_n hG dL_law_1244 rfl ?_
  refine px_iconst hG dL_law_1245 ?_
  refine px_iadd hG dL_law_1246 ?_
  refine px_sld hG dL_law_1247 ⟨by omega, by show _ < sl; omega⟩ ?_
  show G 1248 [some (.inr (.inr (1000, 0))), some (.inr (.inr (0, 0))), some (.inr (.inr (40, 0))), some (.inl i)] [.inl (sx (i + 1)), .inr (.inr (40, 0))] 122 t2
  refine px_aload_n hG dL_law_1248 rfl ?_
  refine px_iload_n hG dL_law_1249 rfl ?_
  refine px_iconst hG dL_law_1250 ?_
  refine px_iadd hG dL_law_1251 ?_
  refine px_sld hG dL_law_1252 ⟨by omega, by show _ < sl; omega⟩ ?_
  show G 1253 [some (.inr (.inr (1000, 0))), some (.inr (.inr (0, 0))), some (.inr (.inr (40, 0))), some (.inl i)] [.inl (sx (i + 2)), .inl (sx (i + 1)), .inr (.inr (40, 0))] 122 t2
  refine px_aload_n hG dL_law_1253 rfl ?_
  refine px_iload_n hG dL_law_1254 rfl ?_
  refine px_iconst hG dL_law_1255 ?_
  refine px_iadd hG dL_law_1256 ?_
  refine px_sld hG dL_law_1257 ⟨by omega, by show _ < sl; omega⟩ ?_
  show G 1258 [some (.inr (.inr (1000, 0))), some (.inr (.inr (0, 0))), some (.inr (.inr (40, 0))), some (.inl i)] [.inl (sx (i + 3)), .inl (sx (i + 2)), .inl (sx (i + 1)), .inr (.inr (40, 0))] 122 t2
  refine jv3 hG dL_law_1258 ct_X11_keep lk_L_175 ⟨rfl, rfl⟩ (by decide) ⟨Nat.le_of_ble_eq_true rfl, Nat.le_of_ble_eq_true rfl, Nat.le_of_ble_eq_true rfl⟩ (Nat.le_of_ble_eq_true rfl) ⟨(sx (i + 1)), (sx (i + 2)), (sx (i + 3)), rfl, rfl, Rt2, ⟨hx _, hx _, hx _⟩, Jt2⟩ (fun r5 t6 p7 => ?_)
  obtain ⟨x8, rfl, Rt6, Ft6⟩ := p7 _ _ _ rfl
  have Ct6 := pm_CH_eq (fun q => Ft6 46 0 q rfl) Ct2
  have Kt6 : pm_K1 t6 := pm_K1_c Kt2 (Ft6 3 0 0 rfl) (Ft6 3 0 1 rfl) (Ft6 3 0 2 rfl) (Ft6 3 0 3 rfl)
  have Jt6 := pm_J2_fr Ft6 rfl Jt2
  have Pt6 : pm_SP t6 := pm_SP_c Pt2 (fun r q => Ft6 2 r q rfl) (Ft6 31 0 1 rfl) (fun r q => Ft6 32 r q rfl) (fun r q => Ft6 33 r q rfl)
  have Et6 : pm_LE t6 := fun q a b => ⟨(Ft6 36 0 q rfl).trans ((Et2 q a b).1.trans (Ft6 64 0 q rfl).symm), (Ft6 37 0 q rfl).trans ((Et2 q a b).2.trans (Ft6 65 0 q rfl).symm)⟩
  show G 1261 [some (.inr (.inr (1000, 0))), some (.inr (.inr (0, 0))), some (.inr (.inr (40, 0))), some (.inl i)] [.inl x8] 122 t6
  refine px_popi hG dL_law_1261 ?_
  refine px_goto hG dL_law_1262 (tgt := 1265) (by decide) ?_
  exact kk t6 ⟨Rt6, Kt6, Jt6, Ct6, Et6, Pt6⟩
set_option maxRecDepth 20000 in
set_option maxHeartbeats 4000000 in
theorem law_pure {sl : Int} {sx : Int → Int} (hl0 : 0 ≤ sl) (hl1 : sl ≤ 2560) (hx : ∀ i : Int, -2147483648 ≤ sx i ∧ sx i ≤ 2147483647) {G : pm_G} (hG : pm_Rules (pm_EL sl sx) G) : G 0 [some (.inr (.inr (1000, 0))), none, none, none] [] 0 (fun _ _ _ => 0) := by
  refine px_new hG dL_law_0 (c := 0) ⟨rfl, nw_L_7⟩ (by decide) (Nat.le_of_ble_eq_true rfl) (fun r i => rfl) ?_
  show G 3 [some (.inr (.inr (1000, 0))), none, none, none] [.inr (.inr (0, 0))] 1 (fun _ _ _ => 0)
  refine px_dupa hG dL_law_3 ?_
  refine ip0 hG dL_law_4 ct_X10_init lk_L_9 rfl rfl (by decide) ⟨Nat.le_of_ble_eq_true rfl, Nat.le_of_ble_eq_true rfl, Nat.le_of_ble_eq_true rfl⟩ (Nat.le_of_ble_eq_true rfl) ⟨rfl, rfl, fun _ _ _ _ => rfl⟩ (fun r1 t1 p1 => ?_)
  obtain ⟨rfl, ZA, OK, P3, P36, P37, PCT, PS0⟩ := p1 rfl
  show G 7 [some (.inr (.inr (1000, 0))), none, none, none] [.inr (.inr (0, 0))] 95 t1
  refine px_astore_n hG dL_law_7 (Nat.le_of_ble_eq_true rfl) (L2 := [some (.inr (.inr (1000, 0))), some (.inr (.inr (0, 0))), none, none]) rfl ?_
  refine px_new hG dL_law_8 (c := 40) ⟨rfl, nw_L_10⟩ (by decide) (Nat.le_of_ble_eq_true rfl) (fun r i => ZA 40 r i (by decide)) ?_
  show G 11 [some (.inr (.inr (1000, 0))), some (.inr (.inr (0, 0))), none, none] [.inr (.inr (40, 0))] 96 t1
  refine px_dupa hG dL_law_11 ?_
  refine ip0 hG dL_law_12 ct_X11_init lk_L_12 rfl rfl (by decide) ⟨Nat.le_of_ble_eq_true rfl, Nat.le_of_ble_eq_true rfl, Nat.le_of_ble_eq_true rfl⟩ (Nat.le_of_ble_eq_true rfl) ⟨rfl, rfl, ZA, OK⟩ (fun r2 t2 p2 => ?_)
  obtain ⟨rfl, LO, _, _, R, Q, C, LN, SZ⟩ := p2 rfl
  show G 15 [some (.inr (.inr (1000, 0))), some (.inr (.inr (0, 0))), none, none] [.inr (.inr (40, 0))] 122 t2
  refine px_astore_n hG dL_law_15 (Nat.le_of_ble_eq_true rfl) (L2 := [some (.inr (.inr (1000, 0))), some (.inr (.inr (0, 0))), some (.inr (.inr (40, 0))), none]) rfl ?_
  refine px_iconst hG dL_law_16 ?_
  refine px_istore_n hG dL_law_17 (Nat.le_of_ble_eq_true rfl) (L2 := [some (.inr (.inr (1000, 0))), some (.inr (.inr (0, 0))), some (.inr (.inr (40, 0))), some (.inl 0)]) rfl ?_
  have LI : pm_lwI t2 := by
    refine ⟨R, ⟨?_, ?_⟩, ⟨?_, ?_⟩, C, fun q a b => ⟨(LO 36 0 q (by decide)).trans ((P36 q a b).trans (LN q a b).symm), (LO 37 0 q (by decide)).trans ((P37 q).trans (SZ q).symm)⟩, ⟨pm_CT_c PCT (fun r i => LO 2 r i (by decide)), pm_SG_0 (pm_S0_c PS0 (LO 31 0 1 (by decide)) (fun r i => LO 32 r i (by decide)) (fun r i => LO 33 r i (by decide)))⟩⟩
    · rw [LO 3 0 3 (by decide), LO 3 0 1 (by decide)]
      omega
    · rw [LO 3 0 0 (by decide)]
      omega
    · omega
    · intro j a b
      omega
  have L18 : ∀ (N : Nat) (i : Int) (s : pm_H), 0 ≤ i → i ≤ 5000 → pm_lwI s → (10001 - i).toNat < N → G 18 [some (.inr (.inr (1000, 0))), some (.inr (.inr (0, 0))), some (.inr (.inr (40, 0))), some (.inl i)] [] 122 s := by
    intro N
    induction N with
    | zero => intro i s _ _ _ hm; exact absurd hm (Nat.not_lt_zero _)
    | succ N ih =>
      intro i s h0 h9 LI hm
      refine px_iload_n hG dL_law_18 rfl ?_
      refine px_aload_n hG dL_law_19 rfl ?_
      refine px_slen hG dL_law_20 (by show 0 < sl + 1; omega) ?_
      show G 21 [some (.inr (.inr (1000, 0))), some (.inr (.inr (0, 0))), some (.inr (.inr (40, 0))), some (.inl i)] [.inl sl, .inl i] 122 s
      refine px_iconst hG dL_law_21 ?_
      refine px_isub hG dL_law_22 ?_
      refine px_ic_gt hG dL_law_23 (tgt := 1271) (by decide) ⟨by omega, by omega⟩ ⟨by omega, by omega⟩ (fun c => ?_) (fun c => ?_)
      · refine px_iconst hG dL_law_1271 ?_
        exact px_zret (st := []) hG dL_law_1272 rfl (Or.inr rfl) rfl rfl
      · have KK : ∀ t : pm_H, pm_lwI t → G 1265 [some (.inr (.inr (1000, 0))), some (.inr (.inr (0, 0))), some (.inr (.inr (40, 0))), some (.inl i)] [] 122 t := fun t LT => by
          refine px_iinc hG dL_law_1265 (Nat.le_of_ble_eq_true rfl) rfl (L2 := [some (.inr (.inr (1000, 0))), some (.inr (.inr (0, 0))), some (.inr (.inr (40, 0))), some (.inl (i + 5))]) rfl ?_
          refine px_goto hG dL_law_1268 (tgt := 18) (by decide) ?_
          exact ih (i + 5) t (by omega) (by omega) LT (by omega)
        refine px_aload_n hG dL_law_26 rfl ?_
        refine px_iload_n hG dL_law_27 rfl ?_
        refine px_sld hG dL_law_28 ⟨by omega, by show _ < sl; omega⟩ ?_
        show G 29 [some (.inr (.inr (1000, 0))), some (.inr (.inr (0, 0))), some (.inr (.inr (40, 0))), some (.inl i)] [.inl (sx i)] 122 s
        refine px_bipush hG dL_law_29 (by decide) ?_
        refine px_iand hG dL_law_31 ?_
        generalize hv : pm_iand (sx i) 63 = v
        have bv := pm_iand_in (sx i) 63 v hv
        refine px_tsw hG dL_law_32 ⟨by omega, by omega⟩ (by decide) (And.intro (by decide) (And.intro (fun _ => ?_) (And.intro (by decide) (And.intro (fun _ => ?_) (And.intro (by decide) (And.intro (fun _ => ?_) (And.intro (by decide) (And.intro (fun _ => ?_) (And.intro (by decide) (And.intro (fun _ => ?_) (And.intro (by decide) (And.intro (fun _ => ?_) (And.intro (by decide) (And.intro (fun _ => ?_) (And.intro (by decide) (And.intro (fun _ => ?_) (And.intro (by decide) (And.intro (fun _ => ?_) (And.intro (by decide) (And.intro (fun _ => ?_) (And.intro (by decide) (And.intro (fun _ => ?_) (And.intro (by decide) (And.intro (fun _ => ?_) (And.intro (by decide) (And.intro (fun _ => ?_) (And.intro (by decide) (And.intro (fun _ => ?_) (And.intro (by decide) (And.intro (fun _ => ?_) (And.intro (by decide) (And.intro (fun _ => ?_) (And.intro (by decide) (And.intro (fun _ => ?_) (And.intro (by decide) (And.intro (fun _ => ?_) (And.intro (by decide) (And.intro (fun _ => ?_) (And.intro (by decide) (And.intro (fun _ => ?_) (And.intro (by decide) (And.intro (fun _ => ?_) (And.intro (by decide) (And.intro (fun _ => ?_) (And.intro (by decide) (And.intro (fun _ => ?_) (And.intro (by decide) (And.intro (fun _ => ?_) (And.intro (by decide) (And.intro (fun _ => ?_) (And.intro (by decide) (And.intro (fun _ => ?_) (And.intro (by decide) (And.intro (fun _ => ?_) (And.intro (by decide) (And.intro (fun _ => ?_) (And.intro (by decide) (And.intro (fun _ => ?_) (And.intro (by decide) (And.intro (fun _ => ?_) (And.intro (by decide) (And.intro (fun _ => ?_) (And.intro (by decide) (And.intro (fun _ => ?_) (And.intro (by decide) (And.intro (fun _ => ?_) (And.intro (by decide) (And.intro (fun _ => ?_) (And.intro (by decide) (And.intro (fun _ => ?_) (And.intro (by decide) (And.intro (fun _ => ?_) (And.intro (by decide) (And.intro (fun _ => ?_) (And.intro (by decide) (And.intro (fun _ => ?_) (trivial))))))))))))))))))))))))))))))))))))))))))))))))))))))))))))))))))))))))))))) (fun _ => ?_) (by decide)
        · show G 200 [some (.inr (.inr (1000, 0))), some (.inr (.inr (0, 0))), some (.inr (.inr (40, 0))), some (.inl i)] [] 122 s
          exact lw_c0 hG hx h0 (by omega) LI KK
        · show G 243 [some (.inr (.inr (1000, 0))), some (.inr (.inr (0, 0))), some (.inr (.inr (40, 0))), some (.inl i)] [] 122 s
          exact lw_c1 hG hx h0 (by omega) LI KK
        · show G 266 [some (.inr (.inr (1000, 0))), some (.inr (.inr (0, 0))), some (.inr (.inr (40, 0))), some (.inl i)] [] 122 s
          exact lw_c2 hG hx h0 (by omega) LI KK
        · show G 299 [some (.inr (.inr (1000, 0))), some (.inr (.inr (0, 0))), some (.inr (.inr (40, 0))), some (.inl i)] [] 122 s
          exact lw_c3 hG hx h0 (by omega) LI KK
        · show G 332 [some (.inr (.inr (1000, 0))), some (.inr (.inr (0, 0))), some (.inr (.inr (40, 0))), some (.inl i)] [] 122 s
          exact lw_c4 hG hx h0 (by omega) LI KK
        · show G 345 [some (.inr (.inr (1000, 0))), some (.inr (.inr (0, 0))), some (.inr (.inr (40, 0))), some (.inl i)] [] 122 s
          exact lw_c5 hG hx h0 (by omega) LI KK
        · show G 358 [some (.inr (.inr (1000, 0))), some (.inr (.inr (0, 0))), some (.inr (.inr (40, 0))), some (.inl i)] [] 122 s
          exact lw_c6 hG hx h0 (by omega) LI KK
        · show G 391 [some (.inr (.inr (1000, 0))), some (.inr (.inr (0, 0))), some (.inr (.inr (40, 0))), some (.inl i)] [] 122 s
          exact lw_c7 hG hx h0 (by omega) LI KK
        · show G 414 [some (.inr (.inr (1000, 0))), some (.inr (.inr (0, 0))), some (.inr (.inr (40, 0))), some (.inl i)] [] 122 s
          exact lw_c8 hG hx h0 (by omega) LI KK
        · show G 437 [some (.inr (.inr (1000, 0))), some (.inr (.inr (0, 0))), some (.inr (.inr (40, 0))), some (.inl i)] [] 122 s
          exact lw_c9 hG hx h0 (by omega) LI KK
        · show G 450 [some (.inr (.inr (1000, 0))), some (.inr (.inr (0, 0))), some (.inr (.inr (40, 0))), some (.inl i)] [] 122 s
          exact lw_c10 hG hx h0 (by omega) LI KK
        · show G 463 [some (.inr (.inr (1000, 0))), some (.inr (.inr (0, 0))), some (.inr (.inr (40, 0))), some (.inl i)] [] 122 s
          exact lw_c11 hG hx h0 (by omega) LI KK
        · show G 486 [some (.inr (.inr (1000, 0))), some (.inr (.inr (0, 0))), some (.inr (.inr (40, 0))), some (.inl i)] [] 122 s
          exact lw_c12 hG hx h0 (by omega) LI KK
        · show G 499 [some (.inr (.inr (1000, 0))), some (.inr (.inr (0, 0))), some (.inr (.inr (40, 0))), some (.inl i)] [] 122 s
          exact lw_c13 hG hx h0 (by omega) LI KK
        · show G 562 [some (.inr (.inr (1000, 0))), some (.inr (.inr (0, 0))), some (.inr (.inr (40, 0))), some (.inl i)] [] 122 s
          exact lw_c14 hG hx h0 (by omega) LI KK
        · show G 575 [some (.inr (.inr (1000, 0))), some (.inr (.inr (0, 0))), some (.inr (.inr (40, 0))), some (.inl i)] [] 122 s
          exact lw_c15 hG hx h0 (by omega) LI KK
        · show G 588 [some (.inr (.inr (1000, 0))), some (.inr (.inr (0, 0))), some (.inr (.inr (40, 0))), some (.inl i)] [] 122 s
          exact lw_c16 hG hx h0 (by omega) LI KK
        · show G 601 [some (.inr (.inr (1000, 0))), some (.inr (.inr (0, 0))), some (.inr (.inr (40, 0))), some (.inl i)] [] 122 s
          exact lw_c17 hG hx h0 (by omega) LI KK
        · show G 614 [some (.inr (.inr (1000, 0))), some (.inr (.inr (0, 0))), some (.inr (.inr (40, 0))), some (.inl i)] [] 122 s
          exact lw_c18 hG hx h0 (by omega) LI KK
        · show G 637 [some (.inr (.inr (1000, 0))), some (.inr (.inr (0, 0))), some (.inr (.inr (40, 0))), some (.inl i)] [] 122 s
          exact lw_c19 hG hx h0 (by omega) LI KK
        · show G 650 [some (.inr (.inr (1000, 0))), some (.inr (.inr (0, 0))), some (.inr (.inr (40, 0))), some (.inl i)] [] 122 s
          exact lw_c20 hG hx h0 (by omega) LI KK
        · show G 713 [some (.inr (.inr (1000, 0))), some (.inr (.inr (0, 0))), some (.inr (.inr (40, 0))), some (.inl i)] [] 122 s
          exact lw_c21 hG hx h0 (by omega) LI KK
        · show G 726 [some (.inr (.inr (1000, 0))), some (.inr (.inr (0, 0))), some (.inr (.inr (40, 0))), some (.inl i)] [] 122 s
          exact lw_c22 hG hx h0 (by omega) LI KK
        · show G 739 [some (.inr (.inr (1000, 0))), some (.inr (.inr (0, 0))), some (.inr (.inr (40, 0))), some (.inl i)] [] 122 s
          exact lw_c23 hG hx h0 (by omega) LI KK
        · show G 752 [some (.inr (.inr (1000, 0))), some (.inr (.inr (0, 0))), some (.inr (.inr (40, 0))), some (.inl i)] [] 122 s
          exact lw_c24 hG hx h0 (by omega) LI KK
        · show G 785 [some (.inr (.inr (1000, 0))), some (.inr (.inr (0, 0))), some (.inr (.inr (40, 0))), some (.inl i)] [] 122 s
          exact lw_c25 hG hx h0 (by omega) LI KK
        · show G 798 [some (.inr (.inr (1000, 0))), some (.inr (.inr (0, 0))), some (.inr (.inr (40, 0))), some (.inl i)] [] 122 s
          exact lw_c26 hG hx h0 (by omega) LI KK
        · show G 821 [some (.inr (.inr (1000, 0))), some (.inr (.inr (0, 0))), some (.inr (.inr (40, 0))), some (.inl i)] [] 122 s
          exact lw_c27 hG hx h0 (by omega) LI KK
        · show G 864 [some (.inr (.inr (1000, 0))), some (.inr (.inr (0, 0))), some (.inr (.inr (40, 0))), some (.inl i)] [] 122 s
          exact lw_c28 hG hx h0 (by omega) LI KK
        · show G 907 [some (.inr (.inr (1000, 0))), some (.inr (.inr (0, 0))), some (.inr (.inr (40, 0))), some (.inl i)] [] 122 s
          exact lw_c29 hG hx h0 (by omega) LI KK
        · show G 940 [some (.inr (.inr (1000, 0))), some (.inr (.inr (0, 0))), some (.inr (.inr (40, 0))), some (.inl i)] [] 122 s
          exact lw_c30 hG hx h0 (by omega) LI KK
        · show G 963 [some (.inr (.inr (1000, 0))), some (.inr (.inr (0, 0))), some (.inr (.inr (40, 0))), some (.inl i)] [] 122 s
          exact lw_c31 hG hx h0 (by omega) LI KK
        · show G 1006 [some (.inr (.inr (1000, 0))), some (.inr (.inr (0, 0))), some (.inr (.inr (40, 0))), some (.inl i)] [] 122 s
          exact lw_c32 hG hx h0 (by omega) LI KK
        · show G 1050 [some (.inr (.inr (1000, 0))), some (.inr (.inr (0, 0))), some (.inr (.inr (40, 0))), some (.inl i)] [] 122 s
          exact lw_c33 hG hx h0 (by omega) LI KK
        · show G 1093 [some (.inr (.inr (1000, 0))), some (.inr (.inr (0, 0))), some (.inr (.inr (40, 0))), some (.inl i)] [] 122 s
          exact lw_c34 hG hx h0 (by omega) LI KK
        · show G 1116 [some (.inr (.inr (1000, 0))), some (.inr (.inr (0, 0))), some (.inr (.inr (40, 0))), some (.inl i)] [] 122 s
          exact lw_c35 hG hx h0 (by omega) LI KK
        · show G 1169 [some (.inr (.inr (1000, 0))), some (.inr (.inr (0, 0))), some (.inr (.inr (40, 0))), some (.inl i)] [] 122 s
          exact lw_c36 hG hx h0 (by omega) LI KK
        · show G 1222 [some (.inr (.inr (1000, 0))), some (.inr (.inr (0, 0))), some (.inr (.inr (40, 0))), some (.inl i)] [] 122 s
          exact lw_c37 hG hx h0 (by omega) LI KK
        · show G 1265 [some (.inr (.inr (1000, 0))), some (.inr (.inr (0, 0))), some (.inr (.inr (40, 0))), some (.inl i)] [] 122 s
          exact KK s LI
  exact L18 _ 0 t2 (by omega) (by omega) LI (Nat.lt_succ_self _)
