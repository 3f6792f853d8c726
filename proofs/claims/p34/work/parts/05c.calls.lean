/-! ===== calls of methods that make nothing; bits ===== -/
section PB
variable {E : pm_E} {G : pm_G} {pc : Nat} {L : pm_L} {st : List pm_V} {σ : pm_H}
theorem jv0 (hG : pm_Rules E G) {y : MethodName} {cc2 : ByteArray} {mL : Nat} {rt : Option FieldType} {f2 : Nat} {pre : List pm_V → Nat → pm_H → Prop} {po : List pm_V → Nat → pm_H → pm_P} {idx : Nat} {c ci nf : Nat} (hd : decode E.2.2.2.1 pc = .ok (.invokevirtual idx, 3)) (hC : pm_Ct y cc2 mL rt f2 0 pre po) (hl : pm_LV E.1 idx y 0) (hk : pm_kd c = (0, ci, nf) ∧ pm_cls ci = y.cls) (hp : pm_pos c < 122) (hf : f2 + 1 ≤ E.2.1 ∧ mL ≤ 12 ∧ 122 ≤ E.2.2.1) (hc : pm_cat st ≤ 8) (hpre : pre [.inr (.inr (c, 0))] 122 σ) (kk : ∀ (r : Option pm_V) (τ : pm_H), po [.inr (.inr (c, 0))] 122 σ r τ → G (pc + 3) L (r.toList ++ st) 122 τ) : G pc L (.inr (.inr (c, 0)) :: st) 122 σ := iv0 hG hd hC hl hk hp hf hc hpre kk
theorem js0 (hG : pm_Rules E G) {y : MethodName} {cc2 : ByteArray} {mL : Nat} {rt : Option FieldType} {f2 : Nat} {pre : List pm_V → Nat → pm_H → Prop} {po : List pm_V → Nat → pm_H → pm_P} {idx : Nat} (hd : decode E.2.2.2.1 pc = .ok (.invokestatic idx, 3)) (hC : pm_Ct y cc2 mL rt f2 0 pre po) (hl : pm_LS E.1 idx y 0) (hf : f2 + 1 ≤ E.2.1 ∧ mL ≤ 12 ∧ 122 ≤ E.2.2.1) (hc : pm_cat st ≤ 8) (hpre : pre [] 122 σ) (kk : ∀ (r : Option pm_V) (τ : pm_H), po [] 122 σ r τ → G (pc + 3) L (r.toList ++ st) 122 τ) : G pc L (st) 122 σ := is0 hG hd hC hl hf hc hpre kk
theorem jv1 (hG : pm_Rules E G) {y : MethodName} {cc2 : ByteArray} {mL : Nat} {rt : Option FieldType} {f2 : Nat} {pre : List pm_V → Nat → pm_H → Prop} {po : List pm_V → Nat → pm_H → pm_P} {idx : Nat} {c ci nf : Nat} {x1 : pm_V} (hd : decode E.2.2.2.1 pc = .ok (.invokevirtual idx, 3)) (hC : pm_Ct y cc2 mL rt f2 0 pre po) (hl : pm_LV E.1 idx y 1) (hk : pm_kd c = (0, ci, nf) ∧ pm_cls ci = y.cls) (hp : pm_pos c < 122) (hf : f2 + 1 ≤ E.2.1 ∧ mL ≤ 12 ∧ 122 ≤ E.2.2.1) (hc : pm_cat st ≤ 8) (hpre : pre [.inr (.inr (c, 0)), x1] 122 σ) (kk : ∀ (r : Option pm_V) (τ : pm_H), po [.inr (.inr (c, 0)), x1] 122 σ r τ → G (pc + 3) L (r.toList ++ st) 122 τ) : G pc L (x1 :: .inr (.inr (c, 0)) :: st) 122 σ := iv1 hG hd hC hl hk hp hf hc hpre kk
theorem js1 (hG : pm_Rules E G) {y : MethodName} {cc2 : ByteArray} {mL : Nat} {rt : Option FieldType} {f2 : Nat} {pre : List pm_V → Nat → pm_H → Prop} {po : List pm_V → Nat → pm_H → pm_P} {idx : Nat} {x1 : pm_V} (hd : decode E.2.2.2.1 pc = .ok (.invokestatic idx, 3)) (hC : pm_Ct y cc2 mL rt f2 0 pre po) (hl : pm_LS E.1 idx y 1) (hf : f2 + 1 ≤ E.2.1 ∧ mL ≤ 12 ∧ 122 ≤ E.2.2.1) (hc : pm_cat st ≤ 8) (hpre : pre [x1] 122 σ) (kk : ∀ (r : Option pm_V) (τ : pm_H), po [x1] 122 σ r τ → G (pc + 3) L (r.toList ++ st) 122 τ) : G pc L (x1 :: st) 122 σ := is1 hG hd hC hl hf hc hpre kk
theorem jv2 (hG : pm_Rules E G) {y : MethodName} {cc2 : ByteArray} {mL : Nat} {rt : Option FieldType} {f2 : Nat} {pre : List pm_V → Nat → pm_H → Prop} {po : List pm_V → Nat → pm_H → pm_P} {idx : Nat} {c ci nf : Nat} {x1 x2 : pm_V} (hd : decode E.2.2.2.1 pc = .ok (.invokevirtual idx, 3)) (hC : pm_Ct y cc2 mL rt f2 0 pre po) (hl : pm_LV E.1 idx y 2) (hk : pm_kd c = (0, ci, nf) ∧ pm_cls ci = y.cls) (hp : pm_pos c < 122) (hf : f2 + 1 ≤ E.2.1 ∧ mL ≤ 12 ∧ 122 ≤ E.2.2.1) (hc : pm_cat st ≤ 8) (hpre : pre [.inr (.inr (c, 0)), x1, x2] 122 σ) (kk : ∀ (r : Option pm_V) (τ : pm_H), po [.inr (.inr (c, 0)), x1, x2] 122 σ r τ → G (pc + 3) L (r.toList ++ st) 122 τ) : G pc L (x2 :: x1 :: .inr (.inr (c, 0)) :: st) 122 σ := iv2 hG hd hC hl hk hp hf hc hpre kk
theorem js2 (hG : pm_Rules E G) {y : MethodName} {cc2 : ByteArray} {mL : Nat} {rt : Option FieldType} {f2 : Nat} {pre : List pm_V → Nat → pm_H → Prop} {po : List pm_V → Nat → pm_H → pm_P} {idx : Nat} {x1 x2 : pm_V} (hd : decode E.2.2.2.1 pc = .ok (.invokestatic idx, 3)) (hC : pm_Ct y cc2 mL rt f2 0 pre po) (hl : pm_LS E.1 idx y 2) (hf : f2 + 1 ≤ E.2.1 ∧ mL ≤ 12 ∧ 122 ≤ E.2.2.1) (hc : pm_cat st ≤ 8) (hpre : pre [x1, x2] 122 σ) (kk : ∀ (r : Option pm_V) (τ : pm_H), po [x1, x2] 122 σ r τ → G (pc + 3) L (r.toList ++ st) 122 τ) : G pc L (x2 :: x1 :: st) 122 σ := is2 hG hd hC hl hf hc hpre kk
theorem jv3 (hG : pm_Rules E G) {y : MethodName} {cc2 : ByteArray} {mL : Nat} {rt : Option FieldType} {f2 : Nat} {pre : List pm_V → Nat → pm_H → Prop} {po : List pm_V → Nat → pm_H → pm_P} {idx : Nat} {c ci nf : Nat} {x1 x2 x3 : pm_V} (hd : decode E.2.2.2.1 pc = .ok (.invokevirtual idx, 3)) (hC : pm_Ct y cc2 mL rt f2 0 pre po) (hl : pm_LV E.1 idx y 3) (hk : pm_kd c = (0, ci, nf) ∧ pm_cls ci = y.cls) (hp : pm_pos c < 122) (hf : f2 + 1 ≤ E.2.1 ∧ mL ≤ 12 ∧ 122 ≤ E.2.2.1) (hc : pm_cat st ≤ 8) (hpre : pre [.inr (.inr (c, 0)), x1, x2, x3] 122 σ) (kk : ∀ (r : Option pm_V) (τ : pm_H), po [.inr (.inr (c, 0)), x1, x2, x3] 122 σ r τ → G (pc + 3) L (r.toList ++ st) 122 τ) : G pc L (x3 :: x2 :: x1 :: .inr (.inr (c, 0)) :: st) 122 σ := iv3 hG hd hC hl hk hp hf hc hpre kk
theorem js3 (hG : pm_Rules E G) {y : MethodName} {cc2 : ByteArray} {mL : Nat} {rt : Option FieldType} {f2 : Nat} {pre : List pm_V → Nat → pm_H → Prop} {po : List pm_V → Nat → pm_H → pm_P} {idx : Nat} {x1 x2 x3 : pm_V} (hd : decode E.2.2.2.1 pc = .ok (.invokestatic idx, 3)) (hC : pm_Ct y cc2 mL rt f2 0 pre po) (hl : pm_LS E.1 idx y 3) (hf : f2 + 1 ≤ E.2.1 ∧ mL ≤ 12 ∧ 122 ≤ E.2.2.1) (hc : pm_cat st ≤ 8) (hpre : pre [x1, x2, x3] 122 σ) (kk : ∀ (r : Option pm_V) (τ : pm_H), po [x1, x2, x3] 122 σ r τ → G (pc + 3) L (r.toList ++ st) 122 τ) : G pc L (x3 :: x2 :: x1 :: st) 122 σ := is3 hG hd hC hl hf hc hpre kk
theorem jv4 (hG : pm_Rules E G) {y : MethodName} {cc2 : ByteArray} {mL : Nat} {rt : Option FieldType} {f2 : Nat} {pre : List pm_V → Nat → pm_H → Prop} {po : List pm_V → Nat → pm_H → pm_P} {idx : Nat} {c ci nf : Nat} {x1 x2 x3 x4 : pm_V} (hd : decode E.2.2.2.1 pc = .ok (.invokevirtual idx, 3)) (hC : pm_Ct y cc2 mL rt f2 0 pre po) (hl : pm_LV E.1 idx y 4) (hk : pm_kd c = (0, ci, nf) ∧ pm_cls ci = y.cls) (hp : pm_pos c < 122) (hf : f2 + 1 ≤ E.2.1 ∧ mL ≤ 12 ∧ 122 ≤ E.2.2.1) (hc : pm_cat st ≤ 8) (hpre : pre [.inr (.inr (c, 0)), x1, x2, x3, x4] 122 σ) (kk : ∀ (r : Option pm_V) (τ : pm_H), po [.inr (.inr (c, 0)), x1, x2, x3, x4] 122 σ r τ → G (pc + 3) L (r.toList ++ st) 122 τ) : G pc L (x4 :: x3 :: x2 :: x1 :: .inr (.inr (c, 0)) :: st) 122 σ := iv4 hG hd hC hl hk hp hf hc hpre kk
theorem js4 (hG : pm_Rules E G) {y : MethodName} {cc2 : ByteArray} {mL : Nat} {rt : Option FieldType} {f2 : Nat} {pre : List pm_V → Nat → pm_H → Prop} {po : List pm_V → Nat → pm_H → pm_P} {idx : Nat} {x1 x2 x3 x4 : pm_V} (hd : decode E.2.2.2.1 pc = .ok (.invokestatic idx, 3)) (hC : pm_Ct y cc2 mL rt f2 0 pre po) (hl : pm_LS E.1 idx y 4) (hf : f2 + 1 ≤ E.2.1 ∧ mL ≤ 12 ∧ 122 ≤ E.2.2.1) (hc : pm_cat st ≤ 8) (hpre : pre [x1, x2, x3, x4] 122 σ) (kk : ∀ (r : Option pm_V) (τ : pm_H), po [x1, x2, x3, x4] 122 σ r τ → G (pc + 3) L (r.toList ++ st) 122 τ) : G pc L (x4 :: x3 :: x2 :: x1 :: st) 122 σ := is4 hG hd hC hl hf hc hpre kk
theorem jv5 (hG : pm_Rules E G) {y : MethodName} {cc2 : ByteArray} {mL : Nat} {rt : Option FieldType} {f2 : Nat} {pre : List pm_V → Nat → pm_H → Prop} {po : List pm_V → Nat → pm_H → pm_P} {idx : Nat} {c ci nf : Nat} {x1 x2 x3 x4 x5 : pm_V} (hd : decode E.2.2.2.1 pc = .ok (.invokevirtual idx, 3)) (hC : pm_Ct y cc2 mL rt f2 0 pre po) (hl : pm_LV E.1 idx y 5) (hk : pm_kd c = (0, ci, nf) ∧ pm_cls ci = y.cls) (hp : pm_pos c < 122) (hf : f2 + 1 ≤ E.2.1 ∧ mL ≤ 12 ∧ 122 ≤ E.2.2.1) (hc : pm_cat st ≤ 8) (hpre : pre [.inr (.inr (c, 0)), x1, x2, x3, x4, x5] 122 σ) (kk : ∀ (r : Option pm_V) (τ : pm_H), po [.inr (.inr (c, 0)), x1, x2, x3, x4, x5] 122 σ r τ → G (pc + 3) L (r.toList ++ st) 122 τ) : G pc L (x5 :: x4 :: x3 :: x2 :: x1 :: .inr (.inr (c, 0)) :: st) 122 σ := iv5 hG hd hC hl hk hp hf hc hpre kk
theorem js5 (hG : pm_Rules E G) {y : MethodName} {cc2 : ByteArray} {mL : Nat} {rt : Option FieldType} {f2 : Nat} {pre : List pm_V → Nat → pm_H → Prop} {po : List pm_V → Nat → pm_H → pm_P} {idx : Nat} {x1 x2 x3 x4 x5 : pm_V} (hd : decode E.2.2.2.1 pc = .ok (.invokestatic idx, 3)) (hC : pm_Ct y cc2 mL rt f2 0 pre po) (hl : pm_LS E.1 idx y 5) (hf : f2 + 1 ≤ E.2.1 ∧ mL ≤ 12 ∧ 122 ≤ E.2.2.1) (hc : pm_cat st ≤ 8) (hpre : pre [x1, x2, x3, x4, x5] 122 σ) (kk : ∀ (r : Option pm_V) (τ : pm_H), po [x1, x2, x3, x4, x5] 122 σ r τ → G (pc + 3) L (r.toList ++ st) 122 τ) : G pc L (x5 :: x4 :: x3 :: x2 :: x1 :: st) 122 σ := is5 hG hd hC hl hf hc hpre kk
end PB
theorem pm_iand_in (x y v : Int) (h : pm_iand x y = v) : -2147483648 ≤ v ∧ v ≤ 2147483647 := h ▸ ⟨Int32.le_toInt _, Int32.toInt_le _⟩
theorem pm_ior_in (x y v : Int) (h : pm_ior x y = v) : -2147483648 ≤ v ∧ v ≤ 2147483647 := h ▸ ⟨Int32.le_toInt _, Int32.toInt_le _⟩
theorem pm_ishl_in (x y v : Int) (h : pm_ishl x y = v) : -2147483648 ≤ v ∧ v ≤ 2147483647 := h ▸ ⟨Int32.le_toInt _, Int32.toInt_le _⟩
theorem pm_ishr_in (x y v : Int) (h : pm_ishr x y = v) : -2147483648 ≤ v ∧ v ≤ 2147483647 := h ▸ ⟨Int32.le_toInt _, Int32.toInt_le _⟩
theorem pm_iushr_in (x y v : Int) (h : pm_iushr x y = v) : -2147483648 ≤ v ∧ v ≤ 2147483647 := h ▸ ⟨Int32.le_toInt _, Int32.toInt_le _⟩
theorem pm_i2b_in (x v : Int) (h : pm_i2b x = v) : -2147483648 ≤ v ∧ v ≤ 2147483647 := h ▸ ⟨Int32.le_toInt _, Int32.toInt_le _⟩
theorem pm_i2s_in (x v : Int) (h : pm_i2s x = v) : -2147483648 ≤ v ∧ v ≤ 2147483647 := h ▸ ⟨Int32.le_toInt _, Int32.toInt_le _⟩
theorem pm_emod {x y v : Int} (hy : 1 ≤ y) (h : x % y = v) : 0 ≤ v ∧ v < y := h ▸ ⟨Int.emod_nonneg x (by omega), Int.emod_lt_of_pos x (by omega)⟩
/-- x & 1 -/
theorem pm_and1 {x v : Int} (h : pm_iand x 1 = v) : v = 0 ∨ v = 1 := by
  have e : ∀ z : Int32, z &&& 1 = 0 ∨ z &&& 1 = 1 := fun z => by
    have h2 := Int32.toBitVec_and z 1
    have h3 : (z &&& 1).toBitVec.toNat < 2 := by
      rw [h2, BitVec.toNat_and]
      exact Nat.lt_of_le_of_lt Nat.and_le_right (by decide)
    have h4 : (z &&& 1).toBitVec = 0#32 ∨ (z &&& 1).toBitVec = 1#32 := by
      rcases Nat.lt_or_ge (z &&& 1).toBitVec.toNat 1 with q | q
      · exact Or.inl (BitVec.eq_of_toNat_eq (by show _ = 0; omega))
      · exact Or.inr (BitVec.eq_of_toNat_eq (by show _ = 1; omega))
    rcases h4 with q | q
    · exact Or.inl (Int32.toBitVec_inj.mp q)
    · exact Or.inr (Int32.toBitVec_inj.mp q)
  subst h
  unfold pm_iand
  rcases e (Int32.ofInt x) with q | q
  · exact Or.inl (by rw [show Int32.ofInt 1 = 1 from rfl, q]; rfl)
  · exact Or.inr (by rw [show Int32.ofInt 1 = 1 from rfl, q]; rfl)
/-- or of numbers of m bits -/
theorem pm_or_bd {x y v : Int} (m : Nat) (hm : m ≤ 30) (hx : 0 ≤ x ∧ x < 2 ^ m) (hy : 0 ≤ y ∧ y < 2 ^ m) (h : pm_ior x y = v) : 0 ≤ v ∧ v < 2 ^ m := by
  subst h
  have hp : (2 : Int) ^ m ≤ 2 ^ 30 := by
    have : (2 : Nat) ^ m ≤ 2 ^ 30 := Nat.pow_le_pow_right (by decide) hm
    exact_mod_cast this
  have tn : ∀ z : Int, 0 ≤ z ∧ z < 2 ^ m → (Int32.ofInt z).toBitVec.toNat = z.toNat := fun z hz => by
    have h1 : (Int32.ofInt z).toInt = z := pm_ti ⟨by omega, by omega⟩
    have h2 : (Int32.ofInt z).toBitVec.toInt = z := h1
    have h3 := BitVec.toInt_eq_toNat_bmod (Int32.ofInt z).toBitVec
    have h4 := (Int32.ofInt z).toBitVec.isLt
    rw [h2] at h3
    rw [Int.bmod_def] at h3
    split at h3 <;> omega
  have key : (Int32.ofInt x ||| Int32.ofInt y).toBitVec.toNat < 2 ^ m := by
    rw [Int32.toBitVec_or, BitVec.toNat_or, tn x hx, tn y hy]
    have hx2 : x.toNat < 2 ^ m := by
      have := hx.2
      have h5 : ((x.toNat : Nat) : Int) < ((2 ^ m : Nat) : Int) := by push_cast; omega
      exact_mod_cast h5
    have hy2 : y.toNat < 2 ^ m := by
      have h5 : ((y.toNat : Nat) : Int) < ((2 ^ m : Nat) : Int) := by push_cast; omega
      exact_mod_cast h5
    exact Nat.or_lt_two_pow hx2 hy2
  unfold pm_ior
  have h6 : (Int32.ofInt x ||| Int32.ofInt y).toInt = (((Int32.ofInt x ||| Int32.ofInt y).toBitVec.toNat : Nat) : Int) := by
    show (Int32.ofInt x ||| Int32.ofInt y).toBitVec.toInt = _
    rw [BitVec.toInt_eq_toNat_bmod, Int.bmod_def]
    have : (2 : Nat) ^ m ≤ 2 ^ 30 := Nat.pow_le_pow_right (by decide) hm
    split <;> omega
  rw [h6]
  refine ⟨by omega, ?_⟩
  exact_mod_cast key
/-- the counts 0 .. 10 of a cell are at most b -/
def pm_wb (s : pm_H) (c : Nat) (b : Int) : Prop := ∀ i : Int, 0 ≤ i → i ≤ 10 → 0 ≤ s c 0 i ∧ s c 0 i ≤ b
theorem pm_wb_mono {s : pm_H} {c : Nat} {b b' : Int} (h : pm_wb s c b) (hb : b ≤ b') : pm_wb s c b' := fun i h0 h1 => ⟨(h i h0 h1).1, by have := (h i h0 h1).2; omega⟩
theorem pm_wb_eq {s t : pm_H} {c : Nat} {b : Int} (e : ∀ i : Int, t c 0 i = s c 0 i) (h : pm_wb s c b) : pm_wb t c b := fun i h0 h1 => by rw [e]; exact h i h0 h1
theorem pm_wb_0 {s : pm_H} {c : Nat} {b : Int} (h : ∀ i : Int, 0 ≤ i → i ≤ 10 → s c 0 i = 0) (hb : 0 ≤ b) : pm_wb s c b := fun i h0 h1 => by rw [h i h0 h1]; omega
theorem pm_wb_at {s : pm_H} {c : Nat} {b i x : Int} (h : pm_wb s c b) (e : s c 0 i = x) (h0 : 0 ≤ i) (h1 : i ≤ 10) : 0 ≤ x ∧ x ≤ b := e ▸ h i h0 h1
theorem pm_wb_up {s s' : pm_H} {c : Nat} {b v x : Int} (h : pm_wb s c b) (e : s' = pm_up s c 0 v (x + 1)) (hx : s c 0 v = x) (h0 : 0 ≤ v) (h1 : v ≤ 10) : pm_wb s' c (b + 1) := fun i g0 g1 => by
  by_cases q : i = v
  · subst q
    have := h i g0 g1
    rw [pm_at e]
    omega
  · rw [pm_nei e q]
    have := h i g0 g1
    omega
theorem pm_incdec {s0 s1 t s2 : pm_H} {c : Nat} {v x1 x2 : Int} (E1 : s1 = pm_up s0 c 0 v (x1 + 1)) (E2 : ∀ i : Int, t c 0 i = s1 c 0 i) (E3 : s2 = pm_up t c 0 v (x2 - 1)) (X1 : s0 c 0 v = x1) (X2 : t c 0 v = x2) : ∀ i : Int, s2 c 0 i = s0 c 0 i := fun i => by
  by_cases q : i = v
  · subst q
    have a := pm_at E1
    have b := E2 i
    rw [pm_at E3]
    omega
  · rw [pm_nei E3 q, E2, pm_nei E1 q]
theorem pm_shl1b {k v : Int} (hk : 0 ≤ k ∧ k ≤ 9) (h : pm_ishl 1 k = v) : 1 ≤ v ∧ v ≤ 512 := by
  subst h
  obtain ⟨n, hn, rfl⟩ : ∃ n : Nat, n ≤ 9 ∧ k = (n : Int) := ⟨k.toNat, by omega, by omega⟩
  have : ∀ n : Nat, n < 10 → 1 ≤ pm_ishl 1 (n : Int) ∧ pm_ishl 1 (n : Int) ≤ 512 := by decide +kernel
  exact this n (by omega)
theorem pm_shl1n {k v : Int} (hk : 1 ≤ k ∧ k ≤ 10) (h : pm_ishl 1 k = v) : 2 ≤ v ∧ v ≤ 1024 := by
  subst h
  obtain ⟨n, hn, rfl⟩ : ∃ n : Nat, (1 ≤ n ∧ n ≤ 10) ∧ k = (n : Int) := ⟨k.toNat, by omega, by omega⟩
  have : ∀ n : Nat, n < 11 → 1 ≤ n → 2 ≤ pm_ishl 1 (n : Int) ∧ pm_ishl 1 (n : Int) ≤ 1024 := by decide +kernel
  exact this n (by omega) (by omega)
theorem pm_or10 {x y v : Int} (hx : 0 ≤ x ∧ x ≤ 1023) (hy : 0 ≤ y ∧ y ≤ 1023) (h : pm_ior x y = v) : 0 ≤ v ∧ v ≤ 1023 := by
  have := pm_or_bd 10 (by omega) (by omega) (by omega) h
  omega
theorem pm_mul_bd {a b A B : Int} (ha : 0 ≤ a ∧ a ≤ A) (hb : 0 ≤ b ∧ b ≤ B) : 0 ≤ a * b ∧ a * b ≤ A * B :=
  ⟨Int.mul_nonneg ha.1 hb.1, Int.mul_le_mul ha.2 hb.2 hb.1 (by omega)⟩
theorem pm_shl1 {k v : Int} (hk : 0 ≤ k ∧ k ≤ 10) (h : pm_ishl 1 k = v) : v = 2 ^ k.toNat := by
  subst h
  obtain ⟨n, hn, rfl⟩ : ∃ n : Nat, n ≤ 10 ∧ k = (n : Int) := ⟨k.toNat, by omega, by omega⟩
  have : ∀ n : Nat, n < 11 → pm_ishl 1 (n : Int) = 2 ^ ((n : Int)).toNat := by decide +kernel
  exact this n (by omega)
