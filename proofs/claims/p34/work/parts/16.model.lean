/-! ===== the model: first methods ===== -/
def pm_J2 (s : pm_H) : Prop := s 40 0 3 ≤ s 40 0 1 ∧ ∀ j : Int, 1 ≤ j → j ≤ s 40 0 3 → 1 ≤ s 41 0 j ∧ s 41 0 j ≤ s 40 0 1
def pm_j2M (M : List (Nat × Option Int)) : Bool := M.all (fun e => e.1 != 41 && (e.1 != 40 || (match e.2 with | none => false | some k => k != 1 && k != 3)))
theorem pm_j2M_in {M : List (Nat × Option Int)} (h : pm_j2M M = true) (c : Nat) (i : Int) (hc : c = 41 ∨ (c = 40 ∧ (i = 1 ∨ i = 3))) : pm_inM M c i = false := by
  cases q : pm_inM M c i with
  | false => rfl
  | true =>
    exfalso
    obtain ⟨e, he, hq⟩ := List.any_eq_true.mp q
    have h1 := List.all_eq_true.mp h e he
    rcases e with ⟨ec, eo⟩
    simp only [Bool.and_eq_true, beq_iff_eq] at hq
    obtain ⟨rfl, hq⟩ := hq
    rcases hc with rfl | ⟨rfl, hi⟩
    · exact absurd h1 (by simp)
    · cases eo with
      | none => exact absurd h1 (by simp)
      | some k =>
        simp only [beq_iff_eq] at hq
        subst hq
        rcases hi with rfl | rfl
        · exact absurd h1 (by decide)
        · exact absurd h1 (by decide)
theorem pm_J2_fr {M : List (Nat × Option Int)} {σ τ : pm_H} (h : pm_Fr M σ τ) (hm : pm_j2M M = true) (J : pm_J2 σ) : pm_J2 τ := by
  have h1 := h 40 0 1 (pm_j2M_in hm 40 1 (Or.inr ⟨rfl, Or.inl rfl⟩))
  have h3 := h 40 0 3 (pm_j2M_in hm 40 3 (Or.inr ⟨rfl, Or.inr rfl⟩))
  refine ⟨by have := J.1; omega, fun j a b => ?_⟩
  rw [h 41 0 j (pm_j2M_in hm 41 j (Or.inl rfl)), h1]
  exact J.2 j a (by omega)
theorem pm_J2_up {σ τ : pm_H} {c : Nat} {r i x : Int} (e : τ = pm_up σ c r i x) (h : 40 ≠ c) (h1 : 41 ≠ c) (J : pm_J2 σ) : pm_J2 τ := by
  refine ⟨by rw [pm_nec e h, pm_nec e h]; exact J.1, fun j a b => ?_⟩
  rw [pm_nec e h] at b
  rw [pm_nec e h1, pm_nec e h]
  exact J.2 j a b
theorem pm_J2_wish {σ τ : pm_H} {i x : Int} (e : τ = pm_up σ 41 0 i x) (hx : 1 ≤ x) (hx1 : x ≤ σ 40 0 1) (J : pm_J2 σ) : pm_J2 τ := by
  refine ⟨by rw [pm_nec e (by decide), pm_nec e (by decide)]; exact J.1, fun j a b => ?_⟩
  rw [pm_nec e (by decide)] at b
  by_cases q : j = i
  · subst q
    rw [pm_at e, pm_nec e (by decide)]
    exact ⟨hx, hx1⟩
  · rw [pm_nei e q, pm_nec e (by decide)]
    exact J.2 j a b
theorem pm_J2_k {σ τ : pm_H} {x : Int} (e : τ = pm_up σ 40 0 3 x) (hx : x ≤ σ 40 0 3) (J : pm_J2 σ) : pm_J2 τ := by
  have h1 : τ 40 0 1 = σ 40 0 1 := pm_nei e (by decide)
  have h3 : τ 40 0 3 = x := pm_at e
  refine ⟨by have := J.1; omega, fun j a b => ?_⟩
  rw [pm_nec e (by decide), h1]
  exact J.2 j a (by omega)
theorem pm_J2_add {σ s1 s2 s3 : pm_H} {x k k2 w y : Int} (J : pm_J2 σ) (e1 : s1 = pm_up σ 40 0 3 x) (e2 : s2 = pm_up s1 41 0 k w) (e3 : s3 = pm_up s2 42 0 k2 y) (hx : x = σ 40 0 3 + 1) (hk : k = x) (hw : 1 ≤ w ∧ w ≤ σ 40 0 1) (hn : x ≤ σ 40 0 1) : pm_J2 s3 := by
  refine pm_J2_up e3 (by decide) (by decide) ?_
  have h1 : s2 40 0 1 = σ 40 0 1 := (pm_nec e2 (by decide)).trans (pm_nei e1 (by decide))
  have h3 : s2 40 0 3 = x := (pm_nec e2 (by decide)).trans (pm_at e1)
  refine ⟨by omega, fun j a b => ?_⟩
  by_cases q : j = k
  · subst q
    rw [pm_at e2, h1]
    exact hw
  · rw [pm_nei e2 q, pm_nec e1 (by decide), h1]
    exact J.2 j a (by omega)
/-! plain rows: a car that comes in takes a place from its wish on -/
def pm_pl (s : pm_H) : Prop := s 40 0 0 = 0 ∧ ∀ j : Int, 1 ≤ j → j ≤ s 40 0 3 → s 42 0 j = 1
def pm_oc (o : Int → Int) (p : Int) : Nat → Int
  | 0 => 0
  | k + 1 => pm_oc o p k + (if p < (k : Int) + 1 ∧ o ((k : Int) + 1) ≠ 0 then 1 else 0)
theorem pm_occ_s {o : Int → Int} {n w v : Int} (W : ∀ q : Int, w ≤ q → q < w + v → q ≤ n → o q ≠ 0) (h : o (w + v) ≠ 0) : ∀ q : Int, w ≤ q → q < w + (v + 1) → q ≤ n → o q ≠ 0 := fun q a b c => by
  by_cases e : q = w + v
  · rw [e]
    exact h
  · exact W q a (by omega) c
theorem pm_oc_nn (o : Int → Int) (p : Int) (k : Nat) : 0 ≤ pm_oc o p k := by
  induction k with
  | zero => exact Int.le_refl _
  | succ k ih => simp only [pm_oc]; split <;> omega
theorem pm_oc_z (o : Int → Int) {p : Int} {k : Nat} (h : (k : Int) ≤ p) : pm_oc o p k = 0 := by
  induction k with
  | zero => rfl
  | succ k ih =>
    simp only [pm_oc]
    rw [ih (by omega), if_neg (by omega)]
    rfl
theorem pm_oc_le (o : Int → Int) {p : Int} {k : Nat} (h : 0 ≤ p) (hk : p ≤ k) : pm_oc o p k ≤ k - p := by
  induction k with
  | zero => simp only [pm_oc]; omega
  | succ k ih =>
    by_cases q : p ≤ k
    · have := ih q
      simp only [pm_oc]
      split <;> omega
    · rw [pm_oc_z o (by omega)]
      omega
theorem pm_oc_cg {o o' : Int → Int} {p : Int} {k : Nat} (h : ∀ i : Int, 1 ≤ i → i ≤ k → o i = o' i) : pm_oc o p k = pm_oc o' p k := by
  induction k with
  | zero => rfl
  | succ k ih =>
    simp only [pm_oc]
    rw [ih (fun i a b => h i a (by omega)), h ((k : Int) + 1) (by omega) (by omega)]
theorem pm_oc_up {o o' : Int → Int} {p q : Int} {k : Nat} (h1 : 1 ≤ q) (h2 : q ≤ k) (h0 : o q = 0) (h3 : o' q ≠ 0) (ho : ∀ i : Int, i ≠ q → o' i = o i) : pm_oc o' p k = pm_oc o p k + (if p < q then 1 else 0) := by
  induction k with
  | zero => omega
  | succ k ih =>
    simp only [pm_oc]
    by_cases z : (k : Int) + 1 = q
    · rw [pm_oc_cg (o := o') (o' := o) (k := k) (fun i a b => ho i (by omega)), z, h0]
      by_cases y : p < q
      · rw [if_pos ⟨y, h3⟩, if_neg (fun w => w.2 rfl), if_pos y]
        omega
      · rw [if_neg (fun w => y w.1), if_neg (fun w => w.2 rfl), if_neg y]
        omega
    · rw [ih (by omega), ho _ z]
      omega
def pm_PD (s0 s : pm_H) (c : Int) : Prop := pm_pl s0 → (∀ j : Int, 1 ≤ j → j < c → 1 ≤ s 43 0 j) → ∀ p : Int, 0 ≤ p → pm_gt (s0 41 0) p (c - 1).toNat ≤ pm_oc (s 44 0) p (s0 40 0 1).toNat
def pm_PE (s0 s : pm_H) (c p i : Int) : Prop := pm_pl s0 → (∀ j : Int, 1 ≤ j → j < c → 1 ≤ s 43 0 j) →
  (i = 0 ∧ (1 ≤ p → s0 41 0 c ≤ p ∧ s 44 0 p = 0) ∧ ∀ p' : Int, 0 ≤ p' → pm_gt (s0 41 0) p' (c - 1).toNat ≤ pm_oc (s 44 0) p' (s0 40 0 1).toNat) ∨
  (i = 1 ∧ ∀ p' : Int, 0 ≤ p' → pm_gt (s0 41 0) p' (c + 1 - 1).toNat ≤ pm_oc (s 44 0) p' (s0 40 0 1).toNat)
theorem pm_PD_0 {s0 s : pm_H} : pm_PD s0 s 1 := fun _ _ p _ => pm_oc_nn _ _ _
theorem pm_PE_0 {s0 s s' : pm_H} {c p x : Int} (D : pm_PD s0 s c) (e : s' = pm_up s 43 0 c x) (h : s0 40 0 0 = 0 → 1 ≤ p → s0 41 0 c ≤ p ∧ s 44 0 p = 0) : pm_PE s0 s' c p 0 := fun hp ha => by
  have e4 : s' 44 0 = s 44 0 := funext fun i => pm_nec e (by decide)
  refine Or.inl ⟨rfl, fun h1 => by rw [e4]; exact h hp.1 h1, ?_⟩
  rw [e4]
  exact D hp (fun j a b => by have := ha j a b; rw [pm_nei e (by omega)] at this; exact this)
theorem pm_PE_s {s0 s s' : pm_H} {c p i q : Int} (P : pm_PE s0 s c p i) (e : s' = pm_up s 44 0 q c) (hc : 1 ≤ c ∧ c ≤ s0 40 0 3) (hi : i < s0 42 0 c) (hp : 1 ≤ p) (hn : p ≤ s0 40 0 1) (hq : i = 0 → q = p) : pm_PE s0 s' c p (i + 1) := fun hl ha => by
  have hlen := hl.2 c hc.1 hc.2
  have h := P hl (fun j a b => by have := ha j a b; rw [pm_nec e (by decide)] at this; exact this)
  rcases h with ⟨rfl, h1, h2⟩ | ⟨rfl, _⟩
  · have hq1 := hq rfl
    subst hq1
    refine Or.inr ⟨rfl, fun p' h0 => ?_⟩
    have hw := h1 hp
    rw [pm_gt_s (s0 41 0) p' hc.1, pm_oc_up (o := s 44 0) (o' := s' 44 0) (q := q) hp (by omega) hw.2 (by rw [pm_at e]; omega) (fun i z => pm_nei e z)]
    have := h2 p' h0
    split <;> split <;> omega
  · omega
theorem pm_PD_s {s0 s : pm_H} {c p i : Int} (P : pm_PE s0 s c p i) (hc : 1 ≤ c ∧ c ≤ s0 40 0 3) (h : s0 42 0 c ≤ i ∨ s 43 0 c ≤ 0) : pm_PD s0 s (c + 1) := fun hl ha => by
  have hlen := hl.2 c hc.1 hc.2
  have hac := ha c hc.1 (by omega)
  have q := P hl (fun j a b => ha j a (by omega))
  rcases q with ⟨rfl, _, _⟩ | ⟨_, h2⟩
  · omega
  · exact h2
theorem pm_PD_end {s0 s : pm_H} {k : Int} (D : pm_PD s0 s (k + 1)) (hl : pm_pl s0) (ha : ∀ j : Int, 1 ≤ j → j < k + 1 → 1 ≤ s 43 0 j) (hn : 0 ≤ s0 40 0 1) : ∀ p : Int, 0 ≤ p → p ≤ s0 40 0 1 → pm_gt (s0 41 0) p k.toNat ≤ s0 40 0 1 - p := fun p h0 h1 => by
  have a := D hl ha p h0
  have b := pm_oc_le (s 44 0) h0 (show p ≤ ((s0 40 0 1).toNat : Int) by omega)
  rw [show k + 1 - 1 = k by omega] at a
  omega
theorem pm_all1 {P : Int → Prop} {v : Int} (W : ∀ j : Int, 1 ≤ j → j < v → P j) (h : P v) : ∀ j : Int, 1 ≤ j → j < v + 1 → P j := fun j h0 h1 => by
  by_cases e : j = v
  · subst e
    exact h
  · exact W j h0 (by omega)
def pre_X11_in (as : List pm_V) (n : Nat) (σ : pm_H) : Prop := ∃ va lo hi : Int, as = [.inr (.inl va), .inr (.inl lo), .inr (.inl hi)] ∧ n = 122 ∧ pm_Rng σ ∧ (pm_inl va ∧ pm_inl lo ∧ pm_inl hi)
def po_X11_in (as : List pm_V) (_ : Nat) (σ : pm_H) (r : Option pm_V) (τ : pm_H) : Prop := ∀ va lo hi : Int, as = [.inr (.inl va), .inr (.inl lo), .inr (.inl hi)] → ∃ v : Int, r = some (.inl v) ∧ σ = τ ∧ ((v = 0 ∨ v = 1) ∧ (v = 1 → lo ≤ va ∧ va ≤ hi) ∧ (v = 0 → va < lo ∨ hi < va))
set_option maxRecDepth 20000 in
set_option maxHeartbeats 4000000 in
theorem ct_X11_in : pm_Ct yX11_in cX11_in 6 (some .boolean) 0 0 pre_X11_in po_X11_in := pm_sound (ini := false) (by decide +kernel) pk_X11_in (fun h => absurd h (by decide)) (by
  rintro as n s0 ⟨va, lo, hi, rfl, rfl, R0, hpre⟩
  refine ⟨by decide, Nat.le_of_ble_eq_true rfl, fun G hG => ?_⟩
  have hG : pm_Rules (RX11, 0, 122, cX11_in, -1, (fun _ => 0), false, (some .boolean), po_X11_in [.inr (.inl va), .inr (.inl lo), .inr (.inl hi)] 122 s0) G := hG
  show G 0 [some (.inr (.inl va)), none, some (.inr (.inl lo)), none, some (.inr (.inl hi)), none] [] 122 s0
  refine px_lload_n hG dX11_in_0 rfl ?_
  refine px_lload_n hG dX11_in_1 rfl ?_
  refine px_lcmp hG dX11_in_2 ⟨by omega, by omega⟩ ⟨by omega, by omega⟩ (fun x1 bx1 => ?_)
  refine px_if_lt hG dX11_in_3 (tgt := 17) (by decide) ⟨by omega, by omega⟩ (fun c2 => ?_) (fun c2 => ?_)
  · refine px_iconst hG dX11_in_17 ?_
    exact px_zret (st := []) hG dX11_in_18 rfl (by omega) rfl (fun va_1 lo_1 hi_1 ee => by cases ee; exact ⟨_, rfl, rfl, by omega⟩)
  · refine px_lload_n hG dX11_in_6 rfl ?_
    refine px_lload hG dX11_in_7 rfl ?_
    refine px_lcmp hG dX11_in_9 ⟨by omega, by omega⟩ ⟨by omega, by omega⟩ (fun x3 bx3 => ?_)
    refine px_if_gt hG dX11_in_10 (tgt := 17) (by decide) ⟨by omega, by omega⟩ (fun c4 => ?_) (fun c4 => ?_)
    · refine px_iconst hG dX11_in_17 ?_
      exact px_zret (st := []) hG dX11_in_18 rfl (by omega) rfl (fun va_1 lo_1 hi_1 ee => by cases ee; exact ⟨_, rfl, rfl, by omega⟩)
    · refine px_iconst hG dX11_in_13 ?_
      refine px_goto hG dX11_in_14 (tgt := 18) (by decide) ?_
      exact px_zret (st := []) hG dX11_in_18 rfl (by omega) rfl (fun va_1 lo_1 hi_1 ee => by cases ee; exact ⟨_, rfl, rfl, by omega⟩))
def pre_X11_road (as : List pm_V) (n : Nat) (σ : pm_H) : Prop := ∃ aa ab ac : Int, as = [.inr (.inr (40, 0)), .inl aa, .inl ab, .inl ac] ∧ n = 122 ∧ pm_Rng σ ∧ ((pm_in aa ∧ pm_in ab ∧ pm_in ac) ∧ pm_J2 σ)
def po_X11_road (as : List pm_V) (_ : Nat) (σ : pm_H) (r : Option pm_V) (τ : pm_H) : Prop := ∀ aa ab ac : Int, as = [.inr (.inr (40, 0)), .inl aa, .inl ab, .inl ac] → ∃ v : Int, r = some (.inl v) ∧ pm_Rng τ ∧ pm_Fr [(40, some 0), (40, some 1), (40, some 2), (40, some 3)] σ τ ∧ (pm_J2 τ ∧ ((v = -1 ∧ (aa < 0 ∨ 2 < aa ∨ ab < 1 ∨ 10 < ab ∨ ac < 0 ∨ 9 < ac)) ∨ (v = 1)))
set_option maxRecDepth 20000 in
set_option maxHeartbeats 4000000 in
theorem ct_X11_road : pm_Ct yX11_road cX11_road 4 (some .int) 1 0 pre_X11_road po_X11_road := pm_sound (ini := false) (by decide +kernel) pk_X11_road (fun h => absurd h (by decide)) (by
  rintro as n s0 ⟨aa, ab, ac, rfl, rfl, R0, hpre⟩
  refine ⟨by decide, Nat.le_of_ble_eq_true rfl, fun G hG => ?_⟩
  have hG : pm_Rules (RX11, 1, 122, cX11_road, -1, (fun _ => 0), false, (some .int), po_X11_road [.inr (.inr (40, 0)), .inl aa, .inl ab, .inl ac] 122 s0) G := hG
  show G 0 [some (.inr (.inr (40, 0))), some (.inl aa), some (.inl ab), some (.inl ac)] [] 122 s0
  have B0 := pb_40_0 R0
  have B1 := pb_40_1 R0
  have B2 := pb_40_2 R0
  have B3 := pb_40_3 R0
  have J2 := hpre.2
  have HP := hpre.1
  have JK := J2.1
  have JW := J2.2
  refine px_iload_n hG dX11_road_0 rfl ?_
  refine px_i2l hG dX11_road_1 ⟨by omega, by omega⟩ ?_
  refine px_lconst hG dX11_road_2 ?_
  show G 3 [some (.inr (.inr (40, 0))), some (.inl aa), some (.inl ab), some (.inl ac)] [.inr (.inl 0), .inr (.inl aa)] 122 s0
  refine px_ldc2 hG dX11_road_3 cn_X11_94 ?_
  show G 6 [some (.inr (.inr (40, 0))), some (.inl aa), some (.inl ab), some (.inl ac)] [.inr (.inl 2), .inr (.inl 0), .inr (.inl aa)] 122 s0
  refine js3 hG dX11_road_6 ct_X11_in lk_X11_96 ⟨Nat.le_of_ble_eq_true rfl, Nat.le_of_ble_eq_true rfl, Nat.le_of_ble_eq_true rfl⟩ (Nat.le_of_ble_eq_true rfl) ⟨aa, 0, 2, rfl, rfl, R0, by omega⟩ (fun r1 t2 pr1 => ?_)
  obtain ⟨x3, rfl, rfl, br1⟩ := pr1 _ _ _ rfl
  show G 9 [some (.inr (.inr (40, 0))), some (.inl aa), some (.inl ab), some (.inl ac)] [.inl x3] 122 s0
  refine px_if_eq hG dX11_road_9 (tgt := 36) (by decide) ⟨by omega, by omega⟩ (fun c4 => ?_) (fun c4 => ?_)
  · refine px_iconst hG dX11_road_36 ?_
    exact px_iret (st := []) hG dX11_road_37 rfl rfl (fun aa_1 ab_1 ac_1 ee => by cases ee; exact ⟨_, rfl, R0, pm_Fr_rf, ⟨J2, by omega⟩⟩)
  · refine px_iload_n hG dX11_road_12 rfl ?_
    refine px_i2l hG dX11_road_13 ⟨by omega, by omega⟩ ?_
    refine px_lconst hG dX11_road_14 ?_
    show G 15 [some (.inr (.inr (40, 0))), some (.inl aa), some (.inl ab), some (.inl ac)] [.inr (.inl 1), .inr (.inl ab)] 122 s0
    refine px_ldc2 hG dX11_road_15 cn_X11_100 ?_
    show G 18 [some (.inr (.inr (40, 0))), some (.inl aa), some (.inl ab), some (.inl ac)] [.inr (.inl 10), .inr (.inl 1), .inr (.inl ab)] 122 s0
    refine js3 hG dX11_road_18 ct_X11_in lk_X11_96 ⟨Nat.le_of_ble_eq_true rfl, Nat.le_of_ble_eq_true rfl, Nat.le_of_ble_eq_true rfl⟩ (Nat.le_of_ble_eq_true rfl) ⟨ab, 1, 10, rfl, rfl, R0, by omega⟩ (fun r5 t6 pr5 => ?_)
    obtain ⟨x7, rfl, rfl, br5⟩ := pr5 _ _ _ rfl
    show G 21 [some (.inr (.inr (40, 0))), some (.inl aa), some (.inl ab), some (.inl ac)] [.inl x7] 122 s0
    refine px_if_eq hG dX11_road_21 (tgt := 36) (by decide) ⟨by omega, by omega⟩ (fun c8 => ?_) (fun c8 => ?_)
    · refine px_iconst hG dX11_road_36 ?_
      exact px_iret (st := []) hG dX11_road_37 rfl rfl (fun aa_1 ab_1 ac_1 ee => by cases ee; exact ⟨_, rfl, R0, pm_Fr_rf, ⟨J2, by omega⟩⟩)
    · refine px_iload_n hG dX11_road_24 rfl ?_
      refine px_i2l hG dX11_road_25 ⟨by omega, by omega⟩ ?_
      refine px_lconst hG dX11_road_26 ?_
      show G 27 [some (.inr (.inr (40, 0))), some (.inl aa), some (.inl ab), some (.inl ac)] [.inr (.inl 0), .inr (.inl ac)] 122 s0
      refine px_ldc2 hG dX11_road_27 cn_X11_102 ?_
      show G 30 [some (.inr (.inr (40, 0))), some (.inl aa), some (.inl ab), some (.inl ac)] [.inr (.inl 9), .inr (.inl 0), .inr (.inl ac)] 122 s0
      refine js3 hG dX11_road_30 ct_X11_in lk_X11_96 ⟨Nat.le_of_ble_eq_true rfl, Nat.le_of_ble_eq_true rfl, Nat.le_of_ble_eq_true rfl⟩ (Nat.le_of_ble_eq_true rfl) ⟨ac, 0, 9, rfl, rfl, R0, by omega⟩ (fun r9 t10 pr9 => ?_)
      obtain ⟨x11, rfl, rfl, br9⟩ := pr9 _ _ _ rfl
      show G 33 [some (.inr (.inr (40, 0))), some (.inl aa), some (.inl ab), some (.inl ac)] [.inl x11] 122 s0
      refine px_if_ne hG dX11_road_33 (tgt := 38) (by decide) ⟨by omega, by omega⟩ (fun c12 => ?_) (fun c12 => ?_)
      · refine px_aload_n hG dX11_road_38 rfl ?_
        refine px_iload_n hG dX11_road_39 rfl ?_
        refine pi_40_0 hG dX11_road_40 fl_X11_104 R0 (by omega) (fun s13 qs13 Rs13 => ?_)
        have Fs13 := pm_Fr_up ((pm_Fr_rf : pm_Fr [(40, some 0), (40, some 1), (40, some 2), (40, some 3)] s0 s0)) qs13 (M := [(40, some 0), (40, some 1), (40, some 2), (40, some 3)]) rfl
        have k14 : s13 40 0 0 = aa := pm_at qs13
        refine px_aload_n hG dX11_road_43 rfl ?_
        refine px_iload_n hG dX11_road_44 rfl ?_
        refine pi_40_1 hG dX11_road_45 fl_X11_7 Rs13 (by omega) (fun s15 qs15 Rs15 => ?_)
        have Fs15 := pm_Fr_up (Fs13) qs15 (M := [(40, some 0), (40, some 1), (40, some 2), (40, some 3)]) rfl
        have k16 : s15 40 0 0 = aa := (pm_nei qs15 (by decide)).trans k14
        have k17 : s15 40 0 1 = ab := pm_at qs15
        refine px_aload_n hG dX11_road_48 rfl ?_
        refine px_iload_n hG dX11_road_49 rfl ?_
        refine pi_40_2 hG dX11_road_50 fl_X11_107 Rs15 (by omega) (fun s18 qs18 Rs18 => ?_)
        have Fs18 := pm_Fr_up (Fs15) qs18 (M := [(40, some 0), (40, some 1), (40, some 2), (40, some 3)]) rfl
        have k19 : s18 40 0 0 = aa := (pm_nei qs18 (by decide)).trans k16
        have k20 : s18 40 0 1 = ab := (pm_nei qs18 (by decide)).trans k17
        have k21 : s18 40 0 2 = ac := pm_at qs18
        refine px_aload_n hG dX11_road_53 rfl ?_
        refine px_iconst hG dX11_road_54 ?_
        refine pi_40_3 hG dX11_road_55 fl_X11_110 Rs18 (by omega) (fun s22 qs22 Rs22 => ?_)
        have Fs22 := pm_Fr_up (Fs18) qs22 (M := [(40, some 0), (40, some 1), (40, some 2), (40, some 3)]) rfl
        have k23 : s22 40 0 0 = aa := (pm_nei qs22 (by decide)).trans k19
        have k24 : s22 40 0 1 = ab := (pm_nei qs22 (by decide)).trans k20
        have k25 : s22 40 0 2 = ac := (pm_nei qs22 (by decide)).trans k21
        have k26 : s22 40 0 3 = 0 := pm_at qs22
        have E4 := qs22
        refine px_iconst hG dX11_road_58 ?_
        have EK := pm_at E4
        exact px_iret (st := []) hG dX11_road_59 rfl rfl (fun aa_1 ab_1 ac_1 ee => by cases ee; exact ⟨_, rfl, Rs22, Fs22, ⟨⟨by omega, fun j h0 h1 => by omega⟩, by omega⟩⟩)
      · refine px_iconst hG dX11_road_36 ?_
        exact px_iret (st := []) hG dX11_road_37 rfl rfl (fun aa_1 ab_1 ac_1 ee => by cases ee; exact ⟨_, rfl, R0, pm_Fr_rf, ⟨J2, by omega⟩⟩))
def pre_X11_add (as : List pm_V) (n : Nat) (σ : pm_H) : Prop := ∃ w : Int, as = [.inr (.inr (40, 0)), .inl w] ∧ n = 122 ∧ pm_Rng σ ∧ ((1 ≤ w ∧ w ≤ σ 40 0 1 ∧ σ 40 0 3 + 1 ≤ σ 40 0 1) ∧ pm_J2 σ)
def po_X11_add (as : List pm_V) (_ : Nat) (σ : pm_H) (r : Option pm_V) (τ : pm_H) : Prop := ∀ w : Int, as = [.inr (.inr (40, 0)), .inl w] → r = none ∧ pm_Rng τ ∧ pm_Fr [(40, some 3), (41, none), (42, none)] σ τ ∧ (pm_J2 τ ∧ (τ 40 0 3 = σ 40 0 3 + 1))
set_option maxRecDepth 20000 in
set_option maxHeartbeats 4000000 in
theorem ct_X11_add : pm_Ct yX11_add cX11_add 2 none 0 0 pre_X11_add po_X11_add := pm_sound (ini := false) (by decide +kernel) pk_X11_add (fun h => absurd h (by decide)) (by
  rintro as n s0 ⟨w, rfl, rfl, R0, hpre⟩
  refine ⟨by decide, Nat.le_of_ble_eq_true rfl, fun G hG => ?_⟩
  have hG : pm_Rules (RX11, 0, 122, cX11_add, -1, (fun _ => 0), false, none, po_X11_add [.inr (.inr (40, 0)), .inl w] 122 s0) G := hG
  show G 0 [some (.inr (.inr (40, 0))), some (.inl w)] [] 122 s0
  have B0 := pb_40_0 R0
  have B1 := pb_40_1 R0
  have B2 := pb_40_2 R0
  have B3 := pb_40_3 R0
  have J2 := hpre.2
  have HP := hpre.1
  have JK := J2.1
  have JW := J2.2
  refine px_aload_n hG dX11_add_0 rfl ?_
  refine px_dupa hG dX11_add_1 ?_
  refine gi_40_3 hG dX11_add_2 fl_X11_110 R0 (fun x1 ex1 lx1 ux1 => ?_)
  refine px_iconst hG dX11_add_5 ?_
  refine px_iadd hG dX11_add_6 ?_
  refine pi_40_3 hG dX11_add_7 fl_X11_110 R0 (by omega) (fun s2 qs2 Rs2 => ?_)
  have Fs2 := pm_Fr_up ((pm_Fr_rf : pm_Fr [(40, some 3), (41, none), (42, none)] s0 s0)) qs2 (M := [(40, some 3), (41, none), (42, none)]) rfl
  have k3 : s2 40 0 3 = x1 + 1 := pm_at qs2
  have E1 := qs2
  refine px_aload_n hG dX11_add_10 rfl ?_
  refine gr_40_4 hG dX11_add_11 fl_X11_13 Rs2 ?_
  refine px_aload_n hG dX11_add_14 rfl ?_
  refine gi_40_3 hG dX11_add_15 fl_X11_110 Rs2 (fun x4 ex4 lx4 ux4 => ?_)
  refine px_iload_n hG dX11_add_18 rfl ?_
  refine as_41 hG dX11_add_19 Rs2 (by omega) (by omega) (fun s5 qs5 Rs5 => ?_)
  have Fs5 := pm_Fr_up (Fs2) qs5 (M := [(40, some 3), (41, none), (42, none)]) rfl
  have k6 : s5 40 0 3 = x1 + 1 := (pm_nec qs5 (by decide)).trans k3
  have jj7 := pm_nec qs5 (c' := 40) (r' := 0) (i' := 0) (by decide)
  have jj8 := pm_nec qs5 (c' := 40) (r' := 0) (i' := 1) (by decide)
  have jj9 := pm_nec qs5 (c' := 40) (r' := 0) (i' := 2) (by decide)
  have jj10 := pm_nec qs5 (c' := 40) (r' := 0) (i' := 3) (by decide)
  have E2 := qs5
  refine px_aload_n hG dX11_add_20 rfl ?_
  refine gr_40_5 hG dX11_add_21 fl_X11_17 Rs5 ?_
  refine px_aload_n hG dX11_add_24 rfl ?_
  refine gi_40_3 hG dX11_add_25 fl_X11_110 Rs5 (fun x11 ex11 lx11 ux11 => ?_)
  refine px_iconst hG dX11_add_28 ?_
  refine as_42 hG dX11_add_29 Rs5 (by omega) (by omega) (fun s12 qs12 Rs12 => ?_)
  have Fs12 := pm_Fr_up (Fs5) qs12 (M := [(40, some 3), (41, none), (42, none)]) rfl
  have k13 : s12 40 0 3 = x1 + 1 := (pm_nec qs12 (by decide)).trans k6
  have jj14 := pm_nec qs12 (c' := 40) (r' := 0) (i' := 0) (by decide)
  have jj15 := pm_nec qs12 (c' := 40) (r' := 0) (i' := 1) (by decide)
  have jj16 := pm_nec qs12 (c' := 40) (r' := 0) (i' := 2) (by decide)
  have jj17 := pm_nec qs12 (c' := 40) (r' := 0) (i' := 3) (by decide)
  have E3 := qs12
  have jj18 := Fs12 40 0 0 rfl
  have jj19 := Fs12 40 0 1 rfl
  have jj20 := Fs12 40 0 2 rfl
  have JN := pm_J2_add J2 E1 E2 E3 (by omega) (by omega) (by omega) (by omega)
  exact px_vret (st := []) hG dX11_add_30 rfl rfl (fun w_1 ee => by cases ee; exact ⟨rfl, Rs12, Fs12, ⟨JN, by omega⟩⟩))
def pre_X11_car (as : List pm_V) (n : Nat) (σ : pm_H) : Prop := ∃ aa : Int, as = [.inr (.inr (40, 0)), .inl aa] ∧ n = 122 ∧ pm_Rng σ ∧ ((pm_in aa) ∧ pm_J2 σ)
def po_X11_car (as : List pm_V) (_ : Nat) (σ : pm_H) (r : Option pm_V) (τ : pm_H) : Prop := ∀ aa : Int, as = [.inr (.inr (40, 0)), .inl aa] → ∃ v : Int, r = some (.inl v) ∧ pm_Rng τ ∧ pm_Fr [(40, some 3), (41, none), (42, none)] σ τ ∧ (pm_J2 τ)
set_option maxRecDepth 20000 in
set_option maxHeartbeats 4000000 in
theorem ct_X11_car : pm_Ct yX11_car cX11_car 2 (some .int) 1 0 pre_X11_car po_X11_car := pm_sound (ini := false) (by decide +kernel) pk_X11_car (fun h => absurd h (by decide)) (by
  rintro as n s0 ⟨aa, rfl, rfl, R0, hpre⟩
  refine ⟨by decide, Nat.le_of_ble_eq_true rfl, fun G hG => ?_⟩
  have hG : pm_Rules (RX11, 1, 122, cX11_car, -1, (fun _ => 0), false, (some .int), po_X11_car [.inr (.inr (40, 0)), .inl aa] 122 s0) G := hG
  show G 0 [some (.inr (.inr (40, 0))), some (.inl aa)] [] 122 s0
  have B0 := pb_40_0 R0
  have B1 := pb_40_1 R0
  have B2 := pb_40_2 R0
  have B3 := pb_40_3 R0
  have J2 := hpre.2
  have HP := hpre.1
  have JK := J2.1
  have JW := J2.2
  refine px_iload_n hG dX11_car_0 rfl ?_
  refine px_i2l hG dX11_car_1 ⟨by omega, by omega⟩ ?_
  refine px_lconst hG dX11_car_2 ?_
  show G 3 [some (.inr (.inr (40, 0))), some (.inl aa)] [.inr (.inl 1), .inr (.inl aa)] 122 s0
  refine px_aload_n hG dX11_car_3 rfl ?_
  refine gi_40_1 hG dX11_car_4 fl_X11_7 R0 (fun x1 ex1 lx1 ux1 => ?_)
  refine px_i2l hG dX11_car_7 ⟨by omega, by omega⟩ ?_
  refine js3 hG dX11_car_8 ct_X11_in lk_X11_96 ⟨Nat.le_of_ble_eq_true rfl, Nat.le_of_ble_eq_true rfl, Nat.le_of_ble_eq_true rfl⟩ (Nat.le_of_ble_eq_true rfl) ⟨aa, 1, x1, rfl, rfl, R0, by omega⟩ (fun r2 t3 pr2 => ?_)
  obtain ⟨x4, rfl, rfl, br2⟩ := pr2 _ _ _ rfl
  show G 11 [some (.inr (.inr (40, 0))), some (.inl aa)] [.inl x4] 122 s0
  refine px_if_ne hG dX11_car_11 (tgt := 16) (by decide) ⟨by omega, by omega⟩ (fun c5 => ?_) (fun c5 => ?_)
  · refine px_aload_n hG dX11_car_16 rfl ?_
    refine gi_40_3 hG dX11_car_17 fl_X11_110 R0 (fun x6 ex6 lx6 ux6 => ?_)
    refine px_aload_n hG dX11_car_20 rfl ?_
    refine gi_40_1 hG dX11_car_21 fl_X11_7 R0 (fun x7 ex7 lx7 ux7 => ?_)
    refine px_ic_ne hG dX11_car_24 (tgt := 30) (by decide) ⟨by omega, by omega⟩ ⟨by omega, by omega⟩ (fun c8 => ?_) (fun c8 => ?_)
    · refine px_aload_n hG dX11_car_30 rfl ?_
      refine px_iload_n hG dX11_car_31 rfl ?_
      refine jv1 hG dX11_car_32 ct_X11_add lk_X11_113 ⟨rfl, rfl⟩ (by decide) ⟨Nat.le_of_ble_eq_true rfl, Nat.le_of_ble_eq_true rfl, Nat.le_of_ble_eq_true rfl⟩ (Nat.le_of_ble_eq_true rfl) ⟨aa, rfl, rfl, R0, ⟨by omega, J2⟩⟩ (fun r9 t11 pr9 => ?_)
      obtain ⟨rfl, Rt11, Ft11, br9⟩ := pr9 _ rfl
      have Ff13 := pm_Fr_mono Ft11 (M := [(40, some 3), (41, none), (42, none)]) rfl
      have jj14 := Ft11 40 0 0 rfl
      have jj15 := Ft11 40 0 1 rfl
      have jj16 := Ft11 40 0 2 rfl
      have Jt11 : pm_J2 t11 := br9.1
      have k17 : t11 40 0 1 = x1 := (Ft11 40 0 1 rfl).trans ex1
      show G 35 [some (.inr (.inr (40, 0))), some (.inl aa)] [] 122 t11
      refine px_aload_n hG dX11_car_35 rfl ?_
      refine gi_40_3 hG dX11_car_36 fl_X11_110 Rt11 (fun x18 ex18 lx18 ux18 => ?_)
      have jj19 := Ff13 40 0 0 rfl
      have jj20 := Ff13 40 0 1 rfl
      have jj21 := Ff13 40 0 2 rfl
      exact px_iret (st := []) hG dX11_car_39 rfl rfl (fun aa_1 ee => by cases ee; exact ⟨_, rfl, Rt11, Ff13, Jt11⟩)
    · refine px_bipush hG dX11_car_27 (by decide) ?_
      exact px_iret (st := []) hG dX11_car_29 rfl rfl (fun aa_1 ee => by cases ee; exact ⟨_, rfl, R0, pm_Fr_rf, J2⟩)
  · refine px_iconst hG dX11_car_14 ?_
    exact px_iret (st := []) hG dX11_car_15 rfl rfl (fun aa_1 ee => by cases ee; exact ⟨_, rfl, R0, pm_Fr_rf, J2⟩))
def pre_X11_isCar (as : List pm_V) (n : Nat) (σ : pm_H) : Prop := ∃ aa : Int, as = [.inr (.inr (40, 0)), .inl aa] ∧ n = 122 ∧ pm_Rng σ ∧ ((pm_in aa) ∧ pm_J2 σ)
def po_X11_isCar (as : List pm_V) (_ : Nat) (σ : pm_H) (r : Option pm_V) (τ : pm_H) : Prop := ∀ aa : Int, as = [.inr (.inr (40, 0)), .inl aa] → ∃ v : Int, r = some (.inl v) ∧ σ = τ ∧ ((v = 0 ∨ v = 1) ∧ (v = 1 → 1 ≤ aa ∧ aa ≤ σ 40 0 3) ∧ (v = 0 → aa < 1 ∨ σ 40 0 3 < aa))
set_option maxRecDepth 20000 in
set_option maxHeartbeats 4000000 in
theorem ct_X11_isCar : pm_Ct yX11_isCar cX11_isCar 2 (some .boolean) 1 0 pre_X11_isCar po_X11_isCar := pm_sound (ini := false) (by decide +kernel) pk_X11_isCar (fun h => absurd h (by decide)) (by
  rintro as n s0 ⟨aa, rfl, rfl, R0, hpre⟩
  refine ⟨by decide, Nat.le_of_ble_eq_true rfl, fun G hG => ?_⟩
  have hG : pm_Rules (RX11, 1, 122, cX11_isCar, -1, (fun _ => 0), false, (some .boolean), po_X11_isCar [.inr (.inr (40, 0)), .inl aa] 122 s0) G := hG
  show G 0 [some (.inr (.inr (40, 0))), some (.inl aa)] [] 122 s0
  have B0 := pb_40_0 R0
  have B1 := pb_40_1 R0
  have B2 := pb_40_2 R0
  have B3 := pb_40_3 R0
  have J2 := hpre.2
  have HP := hpre.1
  have JK := J2.1
  have JW := J2.2
  refine px_iload_n hG dX11_isCar_0 rfl ?_
  refine px_i2l hG dX11_isCar_1 ⟨by omega, by omega⟩ ?_
  refine px_lconst hG dX11_isCar_2 ?_
  show G 3 [some (.inr (.inr (40, 0))), some (.inl aa)] [.inr (.inl 1), .inr (.inl aa)] 122 s0
  refine px_aload_n hG dX11_isCar_3 rfl ?_
  refine gi_40_3 hG dX11_isCar_4 fl_X11_110 R0 (fun x1 ex1 lx1 ux1 => ?_)
  refine px_i2l hG dX11_isCar_7 ⟨by omega, by omega⟩ ?_
  refine js3 hG dX11_isCar_8 ct_X11_in lk_X11_96 ⟨Nat.le_of_ble_eq_true rfl, Nat.le_of_ble_eq_true rfl, Nat.le_of_ble_eq_true rfl⟩ (Nat.le_of_ble_eq_true rfl) ⟨aa, 1, x1, rfl, rfl, R0, by omega⟩ (fun r2 t3 pr2 => ?_)
  obtain ⟨x4, rfl, rfl, br2⟩ := pr2 _ _ _ rfl
  show G 11 [some (.inr (.inr (40, 0))), some (.inl aa)] [.inl x4] 122 s0
  exact px_zret (st := []) hG dX11_isCar_11 rfl (by omega) rfl (fun aa_1 ee => by cases ee; exact ⟨_, rfl, rfl, by omega⟩))
def pre_X11_wish (as : List pm_V) (n : Nat) (σ : pm_H) : Prop := ∃ aa ab : Int, as = [.inr (.inr (40, 0)), .inl aa, .inl ab] ∧ n = 122 ∧ pm_Rng σ ∧ ((pm_in aa ∧ pm_in ab) ∧ pm_J2 σ)
def po_X11_wish (as : List pm_V) (_ : Nat) (σ : pm_H) (r : Option pm_V) (τ : pm_H) : Prop := ∀ aa ab : Int, as = [.inr (.inr (40, 0)), .inl aa, .inl ab] → ∃ v : Int, r = some (.inl v) ∧ pm_Rng τ ∧ pm_Fr [(41, none)] σ τ ∧ (pm_J2 τ)
set_option maxRecDepth 20000 in
set_option maxHeartbeats 4000000 in
theorem ct_X11_wish : pm_Ct yX11_wish cX11_wish 4 (some .int) 2 0 pre_X11_wish po_X11_wish := pm_sound (ini := false) (by decide +kernel) pk_X11_wish (fun h => absurd h (by decide)) (by
  rintro as n s0 ⟨aa, ab, rfl, rfl, R0, hpre⟩
  refine ⟨by decide, Nat.le_of_ble_eq_true rfl, fun G hG => ?_⟩
  have hG : pm_Rules (RX11, 2, 122, cX11_wish, -1, (fun _ => 0), false, (some .int), po_X11_wish [.inr (.inr (40, 0)), .inl aa, .inl ab] 122 s0) G := hG
  show G 0 [some (.inr (.inr (40, 0))), some (.inl aa), some (.inl ab), none] [] 122 s0
  have B0 := pb_40_0 R0
  have B1 := pb_40_1 R0
  have B2 := pb_40_2 R0
  have B3 := pb_40_3 R0
  have J2 := hpre.2
  have HP := hpre.1
  have JK := J2.1
  have JW := J2.2
  refine px_aload_n hG dX11_wish_0 rfl ?_
  refine px_iload_n hG dX11_wish_1 rfl ?_
  refine jv1 hG dX11_wish_2 ct_X11_isCar lk_X11_117 ⟨rfl, rfl⟩ (by decide) ⟨Nat.le_of_ble_eq_true rfl, Nat.le_of_ble_eq_true rfl, Nat.le_of_ble_eq_true rfl⟩ (Nat.le_of_ble_eq_true rfl) ⟨aa, rfl, rfl, R0, ⟨by omega, J2⟩⟩ (fun r1 t2 pr1 => ?_)
  obtain ⟨x3, rfl, rfl, br1⟩ := pr1 _ rfl
  show G 5 [some (.inr (.inr (40, 0))), some (.inl aa), some (.inl ab), none] [.inl x3] 122 s0
  refine px_if_eq hG dX11_wish_5 (tgt := 22) (by decide) ⟨by omega, by omega⟩ (fun c4 => ?_) (fun c4 => ?_)
  · refine px_iconst hG dX11_wish_22 ?_
    exact px_iret (st := []) hG dX11_wish_23 rfl rfl (fun aa_1 ab_1 ee => by cases ee; exact ⟨_, rfl, R0, pm_Fr_rf, J2⟩)
  · refine px_iload_n hG dX11_wish_8 rfl ?_
    refine px_i2l hG dX11_wish_9 ⟨by omega, by omega⟩ ?_
    refine px_lconst hG dX11_wish_10 ?_
    show G 11 [some (.inr (.inr (40, 0))), some (.inl aa), some (.inl ab), none] [.inr (.inl 1), .inr (.inl ab)] 122 s0
    refine px_aload_n hG dX11_wish_11 rfl ?_
    refine gi_40_1 hG dX11_wish_12 fl_X11_7 R0 (fun x5 ex5 lx5 ux5 => ?_)
    refine px_i2l hG dX11_wish_15 ⟨by omega, by omega⟩ ?_
    refine js3 hG dX11_wish_16 ct_X11_in lk_X11_96 ⟨Nat.le_of_ble_eq_true rfl, Nat.le_of_ble_eq_true rfl, Nat.le_of_ble_eq_true rfl⟩ (Nat.le_of_ble_eq_true rfl) ⟨ab, 1, x5, rfl, rfl, R0, by omega⟩ (fun r6 t7 pr6 => ?_)
    obtain ⟨x8, rfl, rfl, br6⟩ := pr6 _ _ _ rfl
    show G 19 [some (.inr (.inr (40, 0))), some (.inl aa), some (.inl ab), none] [.inl x8] 122 s0
    refine px_if_ne hG dX11_wish_19 (tgt := 24) (by decide) ⟨by omega, by omega⟩ (fun c9 => ?_) (fun c9 => ?_)
    · refine px_aload_n hG dX11_wish_24 rfl ?_
      refine gr_40_4 hG dX11_wish_25 fl_X11_13 R0 ?_
      refine px_iload_n hG dX11_wish_28 rfl ?_
      refine al_41 hG dX11_wish_29 R0 (by omega) (fun x10 ex10 lx10 ux10 => ?_)
      refine px_istore_n hG dX11_wish_30 (Nat.le_of_ble_eq_true rfl) (L2 := [some (.inr (.inr (40, 0))), some (.inl aa), some (.inl ab), some (.inl x10)]) rfl ?_
      refine px_aload_n hG dX11_wish_31 rfl ?_
      refine gr_40_4 hG dX11_wish_32 fl_X11_13 R0 ?_
      refine px_iload_n hG dX11_wish_35 rfl ?_
      refine px_iload_n hG dX11_wish_36 rfl ?_
      refine as_41 hG dX11_wish_37 R0 (by omega) (by omega) (fun s11 qs11 Rs11 => ?_)
      have Fs11 := pm_Fr_up ((pm_Fr_rf : pm_Fr [(41, none)] s0 s0)) qs11 (M := [(41, none)]) rfl
      have k12 : s11 40 0 1 = x5 := (pm_nec qs11 (by decide)).trans ex5
      have jj13 := pm_nec qs11 (c' := 40) (r' := 0) (i' := 0) (by decide)
      have jj14 := pm_nec qs11 (c' := 40) (r' := 0) (i' := 1) (by decide)
      have jj15 := pm_nec qs11 (c' := 40) (r' := 0) (i' := 2) (by decide)
      have jj16 := pm_nec qs11 (c' := 40) (r' := 0) (i' := 3) (by decide)
      have Js11 := pm_J2_wish qs11 (by omega) (by omega) J2
      refine px_iload_n hG dX11_wish_38 rfl ?_
      have jj17 := Fs11 40 0 0 rfl
      have jj18 := Fs11 40 0 1 rfl
      have jj19 := Fs11 40 0 2 rfl
      have jj20 := Fs11 40 0 3 rfl
      exact px_iret (st := []) hG dX11_wish_39 rfl rfl (fun aa_1 ab_1 ee => by cases ee; exact ⟨_, rfl, Rs11, Fs11, Js11⟩)
    · refine px_iconst hG dX11_wish_22 ?_
      exact px_iret (st := []) hG dX11_wish_23 rfl rfl (fun aa_1 ab_1 ee => by cases ee; exact ⟨_, rfl, R0, pm_Fr_rf, J2⟩))
def pre_X11_length (as : List pm_V) (n : Nat) (σ : pm_H) : Prop := ∃ aa ab : Int, as = [.inr (.inr (40, 0)), .inl aa, .inl ab] ∧ n = 122 ∧ pm_Rng σ ∧ ((pm_in aa ∧ pm_in ab) ∧ pm_J2 σ)
def po_X11_length (as : List pm_V) (_ : Nat) (σ : pm_H) (r : Option pm_V) (τ : pm_H) : Prop := ∀ aa ab : Int, as = [.inr (.inr (40, 0)), .inl aa, .inl ab] → ∃ v : Int, r = some (.inl v) ∧ pm_Rng τ ∧ pm_Fr [(42, none)] σ τ
set_option maxRecDepth 20000 in
set_option maxHeartbeats 4000000 in
theorem ct_X11_length : pm_Ct yX11_length cX11_length 4 (some .int) 2 0 pre_X11_length po_X11_length := pm_sound (ini := false) (by decide +kernel) pk_X11_length (fun h => absurd h (by decide)) (by
  rintro as n s0 ⟨aa, ab, rfl, rfl, R0, hpre⟩
  refine ⟨by decide, Nat.le_of_ble_eq_true rfl, fun G hG => ?_⟩
  have hG : pm_Rules (RX11, 2, 122, cX11_length, -1, (fun _ => 0), false, (some .int), po_X11_length [.inr (.inr (40, 0)), .inl aa, .inl ab] 122 s0) G := hG
  show G 0 [some (.inr (.inr (40, 0))), some (.inl aa), some (.inl ab), none] [] 122 s0
  have B0 := pb_40_0 R0
  have B1 := pb_40_1 R0
  have B2 := pb_40_2 R0
  have B3 := pb_40_3 R0
  have J2 := hpre.2
  have HP := hpre.1
  have JK := J2.1
  have JW := J2.2
  refine px_aload_n hG dX11_length_0 rfl ?_
  refine px_iload_n hG dX11_length_1 rfl ?_
  refine jv1 hG dX11_length_2 ct_X11_isCar lk_X11_117 ⟨rfl, rfl⟩ (by decide) ⟨Nat.le_of_ble_eq_true rfl, Nat.le_of_ble_eq_true rfl, Nat.le_of_ble_eq_true rfl⟩ (Nat.le_of_ble_eq_true rfl) ⟨aa, rfl, rfl, R0, ⟨by omega, J2⟩⟩ (fun r1 t2 pr1 => ?_)
  obtain ⟨x3, rfl, rfl, br1⟩ := pr1 _ rfl
  show G 5 [some (.inr (.inr (40, 0))), some (.inl aa), some (.inl ab), none] [.inl x3] 122 s0
  refine px_if_eq hG dX11_length_5 (tgt := 20) (by decide) ⟨by omega, by omega⟩ (fun c4 => ?_) (fun c4 => ?_)
  · refine px_iconst hG dX11_length_20 ?_
    exact px_iret (st := []) hG dX11_length_21 rfl rfl (fun aa_1 ab_1 ee => by cases ee; exact ⟨_, rfl, R0, pm_Fr_rf⟩)
  · refine px_iload_n hG dX11_length_8 rfl ?_
    refine px_i2l hG dX11_length_9 ⟨by omega, by omega⟩ ?_
    refine px_lconst hG dX11_length_10 ?_
    show G 11 [some (.inr (.inr (40, 0))), some (.inl aa), some (.inl ab), none] [.inr (.inl 1), .inr (.inl ab)] 122 s0
    refine px_ldc2 hG dX11_length_11 cn_X11_121 ?_
    show G 14 [some (.inr (.inr (40, 0))), some (.inl aa), some (.inl ab), none] [.inr (.inl 4), .inr (.inl 1), .inr (.inl ab)] 122 s0
    refine js3 hG dX11_length_14 ct_X11_in lk_X11_96 ⟨Nat.le_of_ble_eq_true rfl, Nat.le_of_ble_eq_true rfl, Nat.le_of_ble_eq_true rfl⟩ (Nat.le_of_ble_eq_true rfl) ⟨ab, 1, 4, rfl, rfl, R0, by omega⟩ (fun r5 t6 pr5 => ?_)
    obtain ⟨x7, rfl, rfl, br5⟩ := pr5 _ _ _ rfl
    show G 17 [some (.inr (.inr (40, 0))), some (.inl aa), some (.inl ab), none] [.inl x7] 122 s0
    refine px_if_ne hG dX11_length_17 (tgt := 22) (by decide) ⟨by omega, by omega⟩ (fun c8 => ?_) (fun c8 => ?_)
    · refine px_aload_n hG dX11_length_22 rfl ?_
      refine gr_40_5 hG dX11_length_23 fl_X11_17 R0 ?_
      refine px_iload_n hG dX11_length_26 rfl ?_
      refine al_42 hG dX11_length_27 R0 (by omega) (fun x9 ex9 lx9 ux9 => ?_)
      refine px_istore_n hG dX11_length_28 (Nat.le_of_ble_eq_true rfl) (L2 := [some (.inr (.inr (40, 0))), some (.inl aa), some (.inl ab), some (.inl x9)]) rfl ?_
      refine px_aload_n hG dX11_length_29 rfl ?_
      refine gr_40_5 hG dX11_length_30 fl_X11_17 R0 ?_
      refine px_iload_n hG dX11_length_33 rfl ?_
      refine px_iload_n hG dX11_length_34 rfl ?_
      refine as_42 hG dX11_length_35 R0 (by omega) (by omega) (fun s10 qs10 Rs10 => ?_)
      have Fs10 := pm_Fr_up ((pm_Fr_rf : pm_Fr [(42, none)] s0 s0)) qs10 (M := [(42, none)]) rfl
      have jj11 := pm_nec qs10 (c' := 40) (r' := 0) (i' := 0) (by decide)
      have jj12 := pm_nec qs10 (c' := 40) (r' := 0) (i' := 1) (by decide)
      have jj13 := pm_nec qs10 (c' := 40) (r' := 0) (i' := 2) (by decide)
      have jj14 := pm_nec qs10 (c' := 40) (r' := 0) (i' := 3) (by decide)
      refine px_iload_n hG dX11_length_36 rfl ?_
      have jj15 := Fs10 40 0 0 rfl
      have jj16 := Fs10 40 0 1 rfl
      have jj17 := Fs10 40 0 2 rfl
      have jj18 := Fs10 40 0 3 rfl
      exact px_iret (st := []) hG dX11_length_37 rfl rfl (fun aa_1 ab_1 ee => by cases ee; exact ⟨_, rfl, Rs10, Fs10⟩)
    · refine px_iconst hG dX11_length_20 ?_
      exact px_iret (st := []) hG dX11_length_21 rfl rfl (fun aa_1 ab_1 ee => by cases ee; exact ⟨_, rfl, R0, pm_Fr_rf⟩))
def pre_X11_undo (as : List pm_V) (n : Nat) (σ : pm_H) : Prop := as = [.inr (.inr (40, 0))] ∧ n = 122 ∧ pm_Rng σ ∧ (pm_J2 σ)
def po_X11_undo (as : List pm_V) (_ : Nat) (σ : pm_H) (r : Option pm_V) (τ : pm_H) : Prop := as = [.inr (.inr (40, 0))] → ∃ v : Int, r = some (.inl v) ∧ pm_Rng τ ∧ pm_Fr [(40, some 3)] σ τ ∧ (pm_J2 τ)
set_option maxRecDepth 20000 in
set_option maxHeartbeats 4000000 in
theorem ct_X11_undo : pm_Ct yX11_undo cX11_undo 1 (some .int) 0 0 pre_X11_undo po_X11_undo := pm_sound (ini := false) (by decide +kernel) pk_X11_undo (fun h => absurd h (by decide)) (by
  rintro as n s0 ⟨rfl, rfl, R0, hpre⟩
  refine ⟨by decide, Nat.le_of_ble_eq_true rfl, fun G hG => ?_⟩
  have hG : pm_Rules (RX11, 0, 122, cX11_undo, -1, (fun _ => 0), false, (some .int), po_X11_undo [.inr (.inr (40, 0))] 122 s0) G := hG
  show G 0 [some (.inr (.inr (40, 0)))] [] 122 s0
  have B0 := pb_40_0 R0
  have B1 := pb_40_1 R0
  have B2 := pb_40_2 R0
  have B3 := pb_40_3 R0
  have J2 := hpre
  have JK := J2.1
  have JW := J2.2
  refine px_aload_n hG dX11_undo_0 rfl ?_
  refine gi_40_3 hG dX11_undo_1 fl_X11_110 R0 (fun x1 ex1 lx1 ux1 => ?_)
  refine px_if_ne hG dX11_undo_4 (tgt := 10) (by decide) ⟨by omega, by omega⟩ (fun c2 => ?_) (fun c2 => ?_)
  · refine px_aload_n hG dX11_undo_10 rfl ?_
    refine px_dupa hG dX11_undo_11 ?_
    refine gi_40_3 hG dX11_undo_12 fl_X11_110 R0 (fun x3 ex3 lx3 ux3 => ?_)
    refine px_iconst hG dX11_undo_15 ?_
    refine px_isub hG dX11_undo_16 ?_
    refine pi_40_3 hG dX11_undo_17 fl_X11_110 R0 (by omega) (fun s4 qs4 Rs4 => ?_)
    have Fs4 := pm_Fr_up ((pm_Fr_rf : pm_Fr [(40, some 3)] s0 s0)) qs4 (M := [(40, some 3)]) rfl
    have k5 : s4 40 0 3 = x3 - 1 := pm_at qs4
    have Js4 := pm_J2_k qs4 (by omega) J2
    refine px_aload_n hG dX11_undo_20 rfl ?_
    refine gi_40_3 hG dX11_undo_21 fl_X11_110 Rs4 (fun x6 ex6 lx6 ux6 => ?_)
    have jj7 := Fs4 40 0 0 rfl
    have jj8 := Fs4 40 0 1 rfl
    have jj9 := Fs4 40 0 2 rfl
    exact px_iret (st := []) hG dX11_undo_24 rfl rfl (fun _ => by exact ⟨_, rfl, Rs4, Fs4, Js4⟩)
  · refine px_bipush hG dX11_undo_7 (by decide) ?_
    exact px_iret (st := []) hG dX11_undo_9 rfl rfl (fun _ => by exact ⟨_, rfl, R0, pm_Fr_rf, J2⟩))
def pre_X11_clear (as : List pm_V) (n : Nat) (σ : pm_H) : Prop := as = [.inr (.inr (40, 0))] ∧ n = 122 ∧ pm_Rng σ ∧ (pm_J2 σ)
def po_X11_clear (as : List pm_V) (_ : Nat) (σ : pm_H) (r : Option pm_V) (τ : pm_H) : Prop := as = [.inr (.inr (40, 0))] → ∃ v : Int, r = some (.inl v) ∧ pm_Rng τ ∧ pm_Fr [(40, some 3)] σ τ ∧ (pm_J2 τ)
set_option maxRecDepth 20000 in
set_option maxHeartbeats 4000000 in
theorem ct_X11_clear : pm_Ct yX11_clear cX11_clear 2 (some .int) 0 0 pre_X11_clear po_X11_clear := pm_sound (ini := false) (by decide +kernel) pk_X11_clear (fun h => absurd h (by decide)) (by
  rintro as n s0 ⟨rfl, rfl, R0, hpre⟩
  refine ⟨by decide, Nat.le_of_ble_eq_true rfl, fun G hG => ?_⟩
  have hG : pm_Rules (RX11, 0, 122, cX11_clear, -1, (fun _ => 0), false, (some .int), po_X11_clear [.inr (.inr (40, 0))] 122 s0) G := hG
  show G 0 [some (.inr (.inr (40, 0))), none] [] 122 s0
  have B0 := pb_40_0 R0
  have B1 := pb_40_1 R0
  have B2 := pb_40_2 R0
  have B3 := pb_40_3 R0
  have J2 := hpre
  have JK := J2.1
  have JW := J2.2
  refine px_aload_n hG dX11_clear_0 rfl ?_
  refine gi_40_3 hG dX11_clear_1 fl_X11_110 R0 (fun x1 ex1 lx1 ux1 => ?_)
  refine px_istore_n hG dX11_clear_4 (Nat.le_of_ble_eq_true rfl) (L2 := [some (.inr (.inr (40, 0))), some (.inl x1)]) rfl ?_
  refine px_aload_n hG dX11_clear_5 rfl ?_
  refine px_iconst hG dX11_clear_6 ?_
  refine pi_40_3 hG dX11_clear_7 fl_X11_110 R0 (by omega) (fun s2 qs2 Rs2 => ?_)
  have Fs2 := pm_Fr_up ((pm_Fr_rf : pm_Fr [(40, some 3)] s0 s0)) qs2 (M := [(40, some 3)]) rfl
  have k3 : s2 40 0 3 = 0 := pm_at qs2
  have Js2 := pm_J2_k qs2 (by omega) J2
  refine px_iload_n hG dX11_clear_10 rfl ?_
  have jj4 := Fs2 40 0 0 rfl
  have jj5 := Fs2 40 0 1 rfl
  have jj6 := Fs2 40 0 2 rfl
  exact px_iret (st := []) hG dX11_clear_11 rfl rfl (fun _ => by exact ⟨_, rfl, Rs2, Fs2, Js2⟩))
def pre_X11_placeFor (as : List pm_V) (n : Nat) (σ : pm_H) : Prop := ∃ w : Int, as = [.inr (.inr (40, 0)), .inl w] ∧ n = 122 ∧ pm_Rng σ ∧ ((1 ≤ w ∧ w ≤ σ 40 0 1) ∧ pm_J2 σ)
def po_X11_placeFor (as : List pm_V) (_ : Nat) (σ : pm_H) (r : Option pm_V) (τ : pm_H) : Prop := ∀ w : Int, as = [.inr (.inr (40, 0)), .inl w] → ∃ v : Int, r = some (.inl v) ∧ σ = τ ∧ (0 ≤ v ∧ v ≤ σ 40 0 1 ∧ (σ 40 0 0 = 0 → 1 ≤ v → w ≤ v ∧ σ 44 0 v = 0) ∧ (σ 40 0 0 = 0 → v = 0 → ∀ q : Int, w ≤ q → q ≤ σ 40 0 1 → σ 44 0 q ≠ 0))
set_option maxRecDepth 20000 in
set_option maxHeartbeats 4000000 in
theorem ct_X11_placeFor : pm_Ct yX11_placeFor cX11_placeFor 4 (some .int) 0 0 pre_X11_placeFor po_X11_placeFor := pm_sound (ini := false) (by decide +kernel) pk_X11_placeFor (fun h => absurd h (by decide)) (by
  rintro as n s0 ⟨w, rfl, rfl, R0, hpre⟩
  refine ⟨by decide, Nat.le_of_ble_eq_true rfl, fun G hG => ?_⟩
  have hG : pm_Rules (RX11, 0, 122, cX11_placeFor, -1, (fun _ => 0), false, (some .int), po_X11_placeFor [.inr (.inr (40, 0)), .inl w] 122 s0) G := hG
  show G 0 [some (.inr (.inr (40, 0))), some (.inl w), none, none] [] 122 s0
  have B0 := pb_40_0 R0
  have B1 := pb_40_1 R0
  have B2 := pb_40_2 R0
  have B3 := pb_40_3 R0
  have J2 := hpre.2
  have HP := hpre.1
  have JK := J2.1
  have JW := J2.2
  refine px_aload_n hG dX11_placeFor_0 rfl ?_
  refine gr_40_7 hG dX11_placeFor_1 fl_X11_23 R0 ?_
  refine px_iload_n hG dX11_placeFor_4 rfl ?_
  refine al_44 hG dX11_placeFor_5 R0 (by omega) (fun x1 ex1 lx1 ux1 => ?_)
  refine px_if_eq hG dX11_placeFor_6 (tgt := 53) (by decide) ⟨by omega, by omega⟩ (fun c2 => ?_) (fun c2 => ?_)
  · refine px_iconst hG dX11_placeFor_53 ?_
    refine px_istore_n hG dX11_placeFor_54 (Nat.le_of_ble_eq_true rfl) (L2 := [some (.inr (.inr (40, 0))), some (.inl w), some (.inl 0), none]) rfl ?_
    have L55 : ∀ (N : Nat) (v2_3 : Int), ((0 ≤ v2_3 ∧ v2_3 ≤ 10000) ∧ (s0 40 0 0 = 0 → ∀ q : Int, w ≤ q → q < w + v2_3 → q ≤ s0 40 0 1 → s0 44 0 q ≠ 0)) → (10001 - v2_3).toNat < N → G 55 [some (.inr (.inr (40, 0))), some (.inl w), some (.inl v2_3), none] [] 122 s0 := by
      intro N
      induction N with
      | zero => intro v2_3 inv5 hm6; exact absurd hm6 (Nat.not_lt_zero _)
      | succ N ih4 =>
        intro v2_3 inv5 hm6
        have W := inv5.2
        refine px_iload_n hG dX11_placeFor_55 rfl ?_
        refine px_aload_n hG dX11_placeFor_56 rfl ?_
        refine gi_40_1 hG dX11_placeFor_57 fl_X11_7 R0 (fun x7 ex7 lx7 ux7 => ?_)
        refine px_ic_ge hG dX11_placeFor_60 (tgt := 121) (by decide) ⟨by omega, by omega⟩ ⟨by omega, by omega⟩ (fun c8 => ?_) (fun c8 => ?_)
        · refine px_iconst hG dX11_placeFor_121 ?_
          exact px_iret (st := []) hG dX11_placeFor_122 rfl rfl (fun w_1 ee => by cases ee; exact ⟨_, rfl, rfl, ⟨by omega, by omega, by omega, fun h _ q a b => W h q a (by omega) b⟩⟩)
        · refine px_iload_n hG dX11_placeFor_63 rfl ?_
          refine px_iload_n hG dX11_placeFor_64 rfl ?_
          refine px_iadd hG dX11_placeFor_65 ?_
          refine px_istore_n hG dX11_placeFor_66 (Nat.le_of_ble_eq_true rfl) (L2 := [some (.inr (.inr (40, 0))), some (.inl w), some (.inl v2_3), some (.inl (w + v2_3))]) rfl ?_
          refine px_iload_n hG dX11_placeFor_67 rfl ?_
          refine px_aload_n hG dX11_placeFor_68 rfl ?_
          refine gi_40_1 hG dX11_placeFor_69 fl_X11_7 R0 (fun x9 ex9 lx9 ux9 => ?_)
          refine px_ic_le hG dX11_placeFor_72 (tgt := 85) (by decide) ⟨by omega, by omega⟩ ⟨by omega, by omega⟩ (fun c10 => ?_) (fun c10 => ?_)
          · refine px_iload_n hG dX11_placeFor_85 rfl ?_
            refine px_aload_n hG dX11_placeFor_86 rfl ?_
            refine gi_40_1 hG dX11_placeFor_87 fl_X11_7 R0 (fun x11 ex11 lx11 ux11 => ?_)
            have J103_14 : ∀ (j13 : Int), (1 ≤ j13 ∧ j13 ≤ s0 40 0 1 ∧ (s0 40 0 0 = 0 → j13 = w + v2_3)) → G 103 [some (.inr (.inr (40, 0))), some (.inl w), some (.inl v2_3), none] [.inl j13] 122 s0 := by
              intro j13 inv15
              refine px_istore_n hG dX11_placeFor_103 (Nat.le_of_ble_eq_true rfl) (L2 := [some (.inr (.inr (40, 0))), some (.inl w), some (.inl v2_3), some (.inl j13)]) rfl ?_
              refine px_aload_n hG dX11_placeFor_104 rfl ?_
              refine gr_40_7 hG dX11_placeFor_105 fl_X11_23 R0 ?_
              refine px_iload_n hG dX11_placeFor_108 rfl ?_
              refine al_44 hG dX11_placeFor_109 R0 (by omega) (fun x16 ex16 lx16 ux16 => ?_)
              have X9 := ex16
              have XW : s0 40 0 0 = 0 → s0 44 0 (w + v2_3) = x16 := fun h => by rw [← (show j13 = w + v2_3 by omega)]; exact X9
              refine px_if_ne hG dX11_placeFor_110 (tgt := 115) (by decide) ⟨by omega, by omega⟩ (fun c17 => ?_) (fun c17 => ?_)
              · refine px_iinc hG dX11_placeFor_115 (Nat.le_of_ble_eq_true rfl) rfl (L2 := [some (.inr (.inr (40, 0))), some (.inl w), some (.inl (v2_3 + 1)), some (.inl j13)]) rfl ?_
                refine px_goto hG dX11_placeFor_118 (tgt := 55) (by decide) ?_
                refine px_weak hG (L2 := [some (.inr (.inr (40, 0))), some (.inl w), some (.inl (v2_3 + 1)), none]) ⟨Or.inr rfl, Or.inr rfl, Or.inr rfl, Or.inl rfl, trivial⟩ ?_
                exact ih4 (v2_3 + 1) (⟨by omega, fun h => pm_occ_s (W h) (by rw [XW h]; omega)⟩) (by omega)
              · refine px_iload_n hG dX11_placeFor_113 rfl ?_
                exact px_iret (st := []) hG dX11_placeFor_114 rfl rfl (fun w_1 ee => by cases ee; exact ⟨_, rfl, rfl, ⟨by omega, by omega, by omega, fun h h1 => by omega⟩⟩)
            refine px_ic_le hG dX11_placeFor_90 (tgt := 102) (by decide) ⟨by omega, by omega⟩ ⟨by omega, by omega⟩ (fun c12 => ?_) (fun c12 => ?_)
            · refine px_iload_n hG dX11_placeFor_102 rfl ?_
              refine px_weak hG (L2 := [some (.inr (.inr (40, 0))), some (.inl w), some (.inl v2_3), none]) ⟨Or.inr rfl, Or.inr rfl, Or.inr rfl, Or.inl rfl, trivial⟩ ?_
              exact J103_14 (w + v2_3) (by omega)
            · refine px_iload_n hG dX11_placeFor_93 rfl ?_
              refine px_aload_n hG dX11_placeFor_94 rfl ?_
              refine gi_40_1 hG dX11_placeFor_95 fl_X11_7 R0 (fun x18 ex18 lx18 ux18 => ?_)
              refine px_isub hG dX11_placeFor_98 ?_
              refine px_goto hG dX11_placeFor_99 (tgt := 103) (by decide) ?_
              refine px_weak hG (L2 := [some (.inr (.inr (40, 0))), some (.inl w), some (.inl v2_3), none]) ⟨Or.inr rfl, Or.inr rfl, Or.inr rfl, Or.inl rfl, trivial⟩ ?_
              exact J103_14 ((w + v2_3) - x18) (by omega)
          · refine px_aload_n hG dX11_placeFor_75 rfl ?_
            refine gi_40_0 hG dX11_placeFor_76 fl_X11_104 R0 (fun x19 ex19 lx19 ux19 => ?_)
            refine px_iconst hG dX11_placeFor_79 ?_
            refine px_ic_eq hG dX11_placeFor_80 (tgt := 85) (by decide) ⟨by omega, by omega⟩ ⟨by omega, by omega⟩ (fun c20 => ?_) (fun c20 => ?_)
            · refine px_iload_n hG dX11_placeFor_85 rfl ?_
              refine px_aload_n hG dX11_placeFor_86 rfl ?_
              refine gi_40_1 hG dX11_placeFor_87 fl_X11_7 R0 (fun x21 ex21 lx21 ux21 => ?_)
              have J103_24 : ∀ (j23 : Int), (1 ≤ j23 ∧ j23 ≤ s0 40 0 1 ∧ (s0 40 0 0 = 0 → j23 = w + v2_3)) → G 103 [some (.inr (.inr (40, 0))), some (.inl w), some (.inl v2_3), none] [.inl j23] 122 s0 := by
                intro j23 inv25
                refine px_istore_n hG dX11_placeFor_103 (Nat.le_of_ble_eq_true rfl) (L2 := [some (.inr (.inr (40, 0))), some (.inl w), some (.inl v2_3), some (.inl j23)]) rfl ?_
                refine px_aload_n hG dX11_placeFor_104 rfl ?_
                refine gr_40_7 hG dX11_placeFor_105 fl_X11_23 R0 ?_
                refine px_iload_n hG dX11_placeFor_108 rfl ?_
                refine al_44 hG dX11_placeFor_109 R0 (by omega) (fun x26 ex26 lx26 ux26 => ?_)
                have X9 := ex26
                have XW : s0 40 0 0 = 0 → s0 44 0 (w + v2_3) = x26 := fun h => by rw [← (show j23 = w + v2_3 by omega)]; exact X9
                refine px_if_ne hG dX11_placeFor_110 (tgt := 115) (by decide) ⟨by omega, by omega⟩ (fun c27 => ?_) (fun c27 => ?_)
                · refine px_iinc hG dX11_placeFor_115 (Nat.le_of_ble_eq_true rfl) rfl (L2 := [some (.inr (.inr (40, 0))), some (.inl w), some (.inl (v2_3 + 1)), some (.inl j23)]) rfl ?_
                  refine px_goto hG dX11_placeFor_118 (tgt := 55) (by decide) ?_
                  refine px_weak hG (L2 := [some (.inr (.inr (40, 0))), some (.inl w), some (.inl (v2_3 + 1)), none]) ⟨Or.inr rfl, Or.inr rfl, Or.inr rfl, Or.inl rfl, trivial⟩ ?_
                  exact ih4 (v2_3 + 1) (⟨by omega, fun h => pm_occ_s (W h) (by rw [XW h]; omega)⟩) (by omega)
                · refine px_iload_n hG dX11_placeFor_113 rfl ?_
                  exact px_iret (st := []) hG dX11_placeFor_114 rfl rfl (fun w_1 ee => by cases ee; exact ⟨_, rfl, rfl, ⟨by omega, by omega, by omega, fun h h1 => by omega⟩⟩)
              refine px_ic_le hG dX11_placeFor_90 (tgt := 102) (by decide) ⟨by omega, by omega⟩ ⟨by omega, by omega⟩ (fun c22 => ?_) (fun c22 => ?_)
              · refine px_iload_n hG dX11_placeFor_102 rfl ?_
                refine px_weak hG (L2 := [some (.inr (.inr (40, 0))), some (.inl w), some (.inl v2_3), none]) ⟨Or.inr rfl, Or.inr rfl, Or.inr rfl, Or.inl rfl, trivial⟩ ?_
                exact J103_24 (w + v2_3) (by omega)
              · refine px_iload_n hG dX11_placeFor_93 rfl ?_
                refine px_aload_n hG dX11_placeFor_94 rfl ?_
                refine gi_40_1 hG dX11_placeFor_95 fl_X11_7 R0 (fun x28 ex28 lx28 ux28 => ?_)
                refine px_isub hG dX11_placeFor_98 ?_
                refine px_goto hG dX11_placeFor_99 (tgt := 103) (by decide) ?_
                refine px_weak hG (L2 := [some (.inr (.inr (40, 0))), some (.inl w), some (.inl v2_3), none]) ⟨Or.inr rfl, Or.inr rfl, Or.inr rfl, Or.inl rfl, trivial⟩ ?_
                exact J103_24 ((w + v2_3) - x28) (by omega)
            · refine px_iconst hG dX11_placeFor_83 ?_
              exact px_iret (st := []) hG dX11_placeFor_84 rfl rfl (fun w_1 ee => by cases ee; exact ⟨_, rfl, rfl, ⟨by omega, by omega, by omega, fun h _ q a b => W h q a (by omega) b⟩⟩)
    exact L55 _ 0 (⟨by omega, fun h q a b c => by omega⟩) (Nat.lt_succ_self _)
  · refine px_aload_n hG dX11_placeFor_9 rfl ?_
    refine gi_40_0 hG dX11_placeFor_10 fl_X11_104 R0 (fun x29 ex29 lx29 ux29 => ?_)
    refine px_iconst hG dX11_placeFor_13 ?_
    refine px_ic_ne hG dX11_placeFor_14 (tgt := 53) (by decide) ⟨by omega, by omega⟩ ⟨by omega, by omega⟩ (fun c30 => ?_) (fun c30 => ?_)
    · refine px_iconst hG dX11_placeFor_53 ?_
      refine px_istore_n hG dX11_placeFor_54 (Nat.le_of_ble_eq_true rfl) (L2 := [some (.inr (.inr (40, 0))), some (.inl w), some (.inl 0), none]) rfl ?_
      have L32 : ∀ (N : Nat) (v2_31 : Int), ((0 ≤ v2_31 ∧ v2_31 ≤ 10000) ∧ (s0 40 0 0 = 0 → ∀ q : Int, w ≤ q → q < w + v2_31 → q ≤ s0 40 0 1 → s0 44 0 q ≠ 0)) → (10001 - v2_31).toNat < N → G 55 [some (.inr (.inr (40, 0))), some (.inl w), some (.inl v2_31), none] [] 122 s0 := by
        intro N
        induction N with
        | zero => intro v2_31 inv34 hm35; exact absurd hm35 (Nat.not_lt_zero _)
        | succ N ih33 =>
          intro v2_31 inv34 hm35
          have W := inv34.2
          refine px_iload_n hG dX11_placeFor_55 rfl ?_
          refine px_aload_n hG dX11_placeFor_56 rfl ?_
          refine gi_40_1 hG dX11_placeFor_57 fl_X11_7 R0 (fun x36 ex36 lx36 ux36 => ?_)
          refine px_ic_ge hG dX11_placeFor_60 (tgt := 121) (by decide) ⟨by omega, by omega⟩ ⟨by omega, by omega⟩ (fun c37 => ?_) (fun c37 => ?_)
          · refine px_iconst hG dX11_placeFor_121 ?_
            exact px_iret (st := []) hG dX11_placeFor_122 rfl rfl (fun w_1 ee => by cases ee; exact ⟨_, rfl, rfl, ⟨by omega, by omega, by omega, fun h _ q a b => W h q a (by omega) b⟩⟩)
          · refine px_iload_n hG dX11_placeFor_63 rfl ?_
            refine px_iload_n hG dX11_placeFor_64 rfl ?_
            refine px_iadd hG dX11_placeFor_65 ?_
            refine px_istore_n hG dX11_placeFor_66 (Nat.le_of_ble_eq_true rfl) (L2 := [some (.inr (.inr (40, 0))), some (.inl w), some (.inl v2_31), some (.inl (w + v2_31))]) rfl ?_
            refine px_iload_n hG dX11_placeFor_67 rfl ?_
            refine px_aload_n hG dX11_placeFor_68 rfl ?_
            refine gi_40_1 hG dX11_placeFor_69 fl_X11_7 R0 (fun x38 ex38 lx38 ux38 => ?_)
            refine px_ic_le hG dX11_placeFor_72 (tgt := 85) (by decide) ⟨by omega, by omega⟩ ⟨by omega, by omega⟩ (fun c39 => ?_) (fun c39 => ?_)
            · refine px_iload_n hG dX11_placeFor_85 rfl ?_
              refine px_aload_n hG dX11_placeFor_86 rfl ?_
              refine gi_40_1 hG dX11_placeFor_87 fl_X11_7 R0 (fun x40 ex40 lx40 ux40 => ?_)
              have J103_43 : ∀ (j42 : Int), (1 ≤ j42 ∧ j42 ≤ s0 40 0 1 ∧ (s0 40 0 0 = 0 → j42 = w + v2_31)) → G 103 [some (.inr (.inr (40, 0))), some (.inl w), some (.inl v2_31), none] [.inl j42] 122 s0 := by
                intro j42 inv44
                refine px_istore_n hG dX11_placeFor_103 (Nat.le_of_ble_eq_true rfl) (L2 := [some (.inr (.inr (40, 0))), some (.inl w), some (.inl v2_31), some (.inl j42)]) rfl ?_
                refine px_aload_n hG dX11_placeFor_104 rfl ?_
                refine gr_40_7 hG dX11_placeFor_105 fl_X11_23 R0 ?_
                refine px_iload_n hG dX11_placeFor_108 rfl ?_
                refine al_44 hG dX11_placeFor_109 R0 (by omega) (fun x45 ex45 lx45 ux45 => ?_)
                have X9 := ex45
                have XW : s0 40 0 0 = 0 → s0 44 0 (w + v2_31) = x45 := fun h => by rw [← (show j42 = w + v2_31 by omega)]; exact X9
                refine px_if_ne hG dX11_placeFor_110 (tgt := 115) (by decide) ⟨by omega, by omega⟩ (fun c46 => ?_) (fun c46 => ?_)
                · refine px_iinc hG dX11_placeFor_115 (Nat.le_of_ble_eq_true rfl) rfl (L2 := [some (.inr (.inr (40, 0))), some (.inl w), some (.inl (v2_31 + 1)), some (.inl j42)]) rfl ?_
                  refine px_goto hG dX11_placeFor_118 (tgt := 55) (by decide) ?_
                  refine px_weak hG (L2 := [some (.inr (.inr (40, 0))), some (.inl w), some (.inl (v2_31 + 1)), none]) ⟨Or.inr rfl, Or.inr rfl, Or.inr rfl, Or.inl rfl, trivial⟩ ?_
                  exact ih33 (v2_31 + 1) (⟨by omega, fun h => pm_occ_s (W h) (by rw [XW h]; omega)⟩) (by omega)
                · refine px_iload_n hG dX11_placeFor_113 rfl ?_
                  exact px_iret (st := []) hG dX11_placeFor_114 rfl rfl (fun w_1 ee => by cases ee; exact ⟨_, rfl, rfl, ⟨by omega, by omega, by omega, fun h h1 => by omega⟩⟩)
              refine px_ic_le hG dX11_placeFor_90 (tgt := 102) (by decide) ⟨by omega, by omega⟩ ⟨by omega, by omega⟩ (fun c41 => ?_) (fun c41 => ?_)
              · refine px_iload_n hG dX11_placeFor_102 rfl ?_
                refine px_weak hG (L2 := [some (.inr (.inr (40, 0))), some (.inl w), some (.inl v2_31), none]) ⟨Or.inr rfl, Or.inr rfl, Or.inr rfl, Or.inl rfl, trivial⟩ ?_
                exact J103_43 (w + v2_31) (by omega)
              · refine px_iload_n hG dX11_placeFor_93 rfl ?_
                refine px_aload_n hG dX11_placeFor_94 rfl ?_
                refine gi_40_1 hG dX11_placeFor_95 fl_X11_7 R0 (fun x47 ex47 lx47 ux47 => ?_)
                refine px_isub hG dX11_placeFor_98 ?_
                refine px_goto hG dX11_placeFor_99 (tgt := 103) (by decide) ?_
                refine px_weak hG (L2 := [some (.inr (.inr (40, 0))), some (.inl w), some (.inl v2_31), none]) ⟨Or.inr rfl, Or.inr rfl, Or.inr rfl, Or.inl rfl, trivial⟩ ?_
                exact J103_43 ((w + v2_31) - x47) (by omega)
            · refine px_aload_n hG dX11_placeFor_75 rfl ?_
              refine gi_40_0 hG dX11_placeFor_76 fl_X11_104 R0 (fun x48 ex48 lx48 ux48 => ?_)
              refine px_iconst hG dX11_placeFor_79 ?_
              refine px_ic_eq hG dX11_placeFor_80 (tgt := 85) (by decide) ⟨by omega, by omega⟩ ⟨by omega, by omega⟩ (fun c49 => ?_) (fun c49 => ?_)
              · refine px_iload_n hG dX11_placeFor_85 rfl ?_
                refine px_aload_n hG dX11_placeFor_86 rfl ?_
                refine gi_40_1 hG dX11_placeFor_87 fl_X11_7 R0 (fun x50 ex50 lx50 ux50 => ?_)
                have J103_53 : ∀ (j52 : Int), (1 ≤ j52 ∧ j52 ≤ s0 40 0 1 ∧ (s0 40 0 0 = 0 → j52 = w + v2_31)) → G 103 [some (.inr (.inr (40, 0))), some (.inl w), some (.inl v2_31), none] [.inl j52] 122 s0 := by
                  intro j52 inv54
                  refine px_istore_n hG dX11_placeFor_103 (Nat.le_of_ble_eq_true rfl) (L2 := [some (.inr (.inr (40, 0))), some (.inl w), some (.inl v2_31), some (.inl j52)]) rfl ?_
                  refine px_aload_n hG dX11_placeFor_104 rfl ?_
                  refine gr_40_7 hG dX11_placeFor_105 fl_X11_23 R0 ?_
                  refine px_iload_n hG dX11_placeFor_108 rfl ?_
                  refine al_44 hG dX11_placeFor_109 R0 (by omega) (fun x55 ex55 lx55 ux55 => ?_)
                  have X9 := ex55
                  have XW : s0 40 0 0 = 0 → s0 44 0 (w + v2_31) = x55 := fun h => by rw [← (show j52 = w + v2_31 by omega)]; exact X9
                  refine px_if_ne hG dX11_placeFor_110 (tgt := 115) (by decide) ⟨by omega, by omega⟩ (fun c56 => ?_) (fun c56 => ?_)
                  · refine px_iinc hG dX11_placeFor_115 (Nat.le_of_ble_eq_true rfl) rfl (L2 := [some (.inr (.inr (40, 0))), some (.inl w), some (.inl (v2_31 + 1)), some (.inl j52)]) rfl ?_
                    refine px_goto hG dX11_placeFor_118 (tgt := 55) (by decide) ?_
                    refine px_weak hG (L2 := [some (.inr (.inr (40, 0))), some (.inl w), some (.inl (v2_31 + 1)), none]) ⟨Or.inr rfl, Or.inr rfl, Or.inr rfl, Or.inl rfl, trivial⟩ ?_
                    exact ih33 (v2_31 + 1) (⟨by omega, fun h => pm_occ_s (W h) (by rw [XW h]; omega)⟩) (by omega)
                  · refine px_iload_n hG dX11_placeFor_113 rfl ?_
                    exact px_iret (st := []) hG dX11_placeFor_114 rfl rfl (fun w_1 ee => by cases ee; exact ⟨_, rfl, rfl, ⟨by omega, by omega, by omega, fun h h1 => by omega⟩⟩)
                refine px_ic_le hG dX11_placeFor_90 (tgt := 102) (by decide) ⟨by omega, by omega⟩ ⟨by omega, by omega⟩ (fun c51 => ?_) (fun c51 => ?_)
                · refine px_iload_n hG dX11_placeFor_102 rfl ?_
                  refine px_weak hG (L2 := [some (.inr (.inr (40, 0))), some (.inl w), some (.inl v2_31), none]) ⟨Or.inr rfl, Or.inr rfl, Or.inr rfl, Or.inl rfl, trivial⟩ ?_
                  exact J103_53 (w + v2_31) (by omega)
                · refine px_iload_n hG dX11_placeFor_93 rfl ?_
                  refine px_aload_n hG dX11_placeFor_94 rfl ?_
                  refine gi_40_1 hG dX11_placeFor_95 fl_X11_7 R0 (fun x57 ex57 lx57 ux57 => ?_)
                  refine px_isub hG dX11_placeFor_98 ?_
                  refine px_goto hG dX11_placeFor_99 (tgt := 103) (by decide) ?_
                  refine px_weak hG (L2 := [some (.inr (.inr (40, 0))), some (.inl w), some (.inl v2_31), none]) ⟨Or.inr rfl, Or.inr rfl, Or.inr rfl, Or.inl rfl, trivial⟩ ?_
                  exact J103_53 ((w + v2_31) - x57) (by omega)
              · refine px_iconst hG dX11_placeFor_83 ?_
                exact px_iret (st := []) hG dX11_placeFor_84 rfl rfl (fun w_1 ee => by cases ee; exact ⟨_, rfl, rfl, ⟨by omega, by omega, by omega, fun h _ q a b => W h q a (by omega) b⟩⟩)
      exact L32 _ 0 (⟨by omega, fun h q a b c => by omega⟩) (Nat.lt_succ_self _)
    · refine px_iload_n hG dX11_placeFor_17 rfl ?_
      refine px_iconst hG dX11_placeFor_18 ?_
      refine px_isub hG dX11_placeFor_19 ?_
      refine px_istore_n hG dX11_placeFor_20 (Nat.le_of_ble_eq_true rfl) (L2 := [some (.inr (.inr (40, 0))), some (.inl w), some (.inl (w - 1)), none]) rfl ?_
      have L21 : ∀ (N : Nat) (v2_58 : Int), ((-10000 ≤ v2_58 ∧ v2_58 ≤ w - 1)) → (v2_58 + 10001).toNat < N → G 21 [some (.inr (.inr (40, 0))), some (.inl w), some (.inl v2_58), none] [] 122 s0 := by
        intro N
        induction N with
        | zero => intro v2_58 inv60 hm61; exact absurd hm61 (Nat.not_lt_zero _)
        | succ N ih59 =>
          intro v2_58 inv60 hm61
          refine px_iload_n hG dX11_placeFor_21 rfl ?_
          refine px_iconst hG dX11_placeFor_22 ?_
          refine px_ic_lt hG dX11_placeFor_23 (tgt := 53) (by decide) ⟨by omega, by omega⟩ ⟨by omega, by omega⟩ (fun c62 => ?_) (fun c62 => ?_)
          · refine px_iconst hG dX11_placeFor_53 ?_
            refine px_istore_n hG dX11_placeFor_54 (Nat.le_of_ble_eq_true rfl) (L2 := [some (.inr (.inr (40, 0))), some (.inl w), some (.inl 0), none]) rfl ?_
            have L64 : ∀ (N : Nat) (v2_63 : Int), ((0 ≤ v2_63 ∧ v2_63 ≤ 10000) ∧ (s0 40 0 0 = 0 → ∀ q : Int, w ≤ q → q < w + v2_63 → q ≤ s0 40 0 1 → s0 44 0 q ≠ 0)) → (10001 - v2_63).toNat < N → G 55 [some (.inr (.inr (40, 0))), some (.inl w), some (.inl v2_63), none] [] 122 s0 := by
              intro N
              induction N with
              | zero => intro v2_63 inv66 hm67; exact absurd hm67 (Nat.not_lt_zero _)
              | succ N ih65 =>
                intro v2_63 inv66 hm67
                have W := inv66.2
                refine px_iload_n hG dX11_placeFor_55 rfl ?_
                refine px_aload_n hG dX11_placeFor_56 rfl ?_
                refine gi_40_1 hG dX11_placeFor_57 fl_X11_7 R0 (fun x68 ex68 lx68 ux68 => ?_)
                refine px_ic_ge hG dX11_placeFor_60 (tgt := 121) (by decide) ⟨by omega, by omega⟩ ⟨by omega, by omega⟩ (fun c69 => ?_) (fun c69 => ?_)
                · refine px_iconst hG dX11_placeFor_121 ?_
                  exact px_iret (st := []) hG dX11_placeFor_122 rfl rfl (fun w_1 ee => by cases ee; exact ⟨_, rfl, rfl, ⟨by omega, by omega, by omega, fun h _ q a b => W h q a (by omega) b⟩⟩)
                · refine px_iload_n hG dX11_placeFor_63 rfl ?_
                  refine px_iload_n hG dX11_placeFor_64 rfl ?_
                  refine px_iadd hG dX11_placeFor_65 ?_
                  refine px_istore_n hG dX11_placeFor_66 (Nat.le_of_ble_eq_true rfl) (L2 := [some (.inr (.inr (40, 0))), some (.inl w), some (.inl v2_63), some (.inl (w + v2_63))]) rfl ?_
                  refine px_iload_n hG dX11_placeFor_67 rfl ?_
                  refine px_aload_n hG dX11_placeFor_68 rfl ?_
                  refine gi_40_1 hG dX11_placeFor_69 fl_X11_7 R0 (fun x70 ex70 lx70 ux70 => ?_)
                  refine px_ic_le hG dX11_placeFor_72 (tgt := 85) (by decide) ⟨by omega, by omega⟩ ⟨by omega, by omega⟩ (fun c71 => ?_) (fun c71 => ?_)
                  · refine px_iload_n hG dX11_placeFor_85 rfl ?_
                    refine px_aload_n hG dX11_placeFor_86 rfl ?_
                    refine gi_40_1 hG dX11_placeFor_87 fl_X11_7 R0 (fun x72 ex72 lx72 ux72 => ?_)
                    have J103_75 : ∀ (j74 : Int), (1 ≤ j74 ∧ j74 ≤ s0 40 0 1 ∧ (s0 40 0 0 = 0 → j74 = w + v2_63)) → G 103 [some (.inr (.inr (40, 0))), some (.inl w), some (.inl v2_63), none] [.inl j74] 122 s0 := by
                      intro j74 inv76
                      refine px_istore_n hG dX11_placeFor_103 (Nat.le_of_ble_eq_true rfl) (L2 := [some (.inr (.inr (40, 0))), some (.inl w), some (.inl v2_63), some (.inl j74)]) rfl ?_
                      refine px_aload_n hG dX11_placeFor_104 rfl ?_
                      refine gr_40_7 hG dX11_placeFor_105 fl_X11_23 R0 ?_
                      refine px_iload_n hG dX11_placeFor_108 rfl ?_
                      refine al_44 hG dX11_placeFor_109 R0 (by omega) (fun x77 ex77 lx77 ux77 => ?_)
                      have X9 := ex77
                      have XW : s0 40 0 0 = 0 → s0 44 0 (w + v2_63) = x77 := fun h => by rw [← (show j74 = w + v2_63 by omega)]; exact X9
                      refine px_if_ne hG dX11_placeFor_110 (tgt := 115) (by decide) ⟨by omega, by omega⟩ (fun c78 => ?_) (fun c78 => ?_)
                      · refine px_iinc hG dX11_placeFor_115 (Nat.le_of_ble_eq_true rfl) rfl (L2 := [some (.inr (.inr (40, 0))), some (.inl w), some (.inl (v2_63 + 1)), some (.inl j74)]) rfl ?_
                        refine px_goto hG dX11_placeFor_118 (tgt := 55) (by decide) ?_
                        refine px_weak hG (L2 := [some (.inr (.inr (40, 0))), some (.inl w), some (.inl (v2_63 + 1)), none]) ⟨Or.inr rfl, Or.inr rfl, Or.inr rfl, Or.inl rfl, trivial⟩ ?_
                        exact ih65 (v2_63 + 1) (⟨by omega, fun h => pm_occ_s (W h) (by rw [XW h]; omega)⟩) (by omega)
                      · refine px_iload_n hG dX11_placeFor_113 rfl ?_
                        exact px_iret (st := []) hG dX11_placeFor_114 rfl rfl (fun w_1 ee => by cases ee; exact ⟨_, rfl, rfl, ⟨by omega, by omega, by omega, fun h h1 => by omega⟩⟩)
                    refine px_ic_le hG dX11_placeFor_90 (tgt := 102) (by decide) ⟨by omega, by omega⟩ ⟨by omega, by omega⟩ (fun c73 => ?_) (fun c73 => ?_)
                    · refine px_iload_n hG dX11_placeFor_102 rfl ?_
                      refine px_weak hG (L2 := [some (.inr (.inr (40, 0))), some (.inl w), some (.inl v2_63), none]) ⟨Or.inr rfl, Or.inr rfl, Or.inr rfl, Or.inl rfl, trivial⟩ ?_
                      exact J103_75 (w + v2_63) (by omega)
                    · refine px_iload_n hG dX11_placeFor_93 rfl ?_
                      refine px_aload_n hG dX11_placeFor_94 rfl ?_
                      refine gi_40_1 hG dX11_placeFor_95 fl_X11_7 R0 (fun x79 ex79 lx79 ux79 => ?_)
                      refine px_isub hG dX11_placeFor_98 ?_
                      refine px_goto hG dX11_placeFor_99 (tgt := 103) (by decide) ?_
                      refine px_weak hG (L2 := [some (.inr (.inr (40, 0))), some (.inl w), some (.inl v2_63), none]) ⟨Or.inr rfl, Or.inr rfl, Or.inr rfl, Or.inl rfl, trivial⟩ ?_
                      exact J103_75 ((w + v2_63) - x79) (by omega)
                  · refine px_aload_n hG dX11_placeFor_75 rfl ?_
                    refine gi_40_0 hG dX11_placeFor_76 fl_X11_104 R0 (fun x80 ex80 lx80 ux80 => ?_)
                    refine px_iconst hG dX11_placeFor_79 ?_
                    refine px_ic_eq hG dX11_placeFor_80 (tgt := 85) (by decide) ⟨by omega, by omega⟩ ⟨by omega, by omega⟩ (fun c81 => ?_) (fun c81 => ?_)
                    · refine px_iload_n hG dX11_placeFor_85 rfl ?_
                      refine px_aload_n hG dX11_placeFor_86 rfl ?_
                      refine gi_40_1 hG dX11_placeFor_87 fl_X11_7 R0 (fun x82 ex82 lx82 ux82 => ?_)
                      have J103_85 : ∀ (j84 : Int), (1 ≤ j84 ∧ j84 ≤ s0 40 0 1 ∧ (s0 40 0 0 = 0 → j84 = w + v2_63)) → G 103 [some (.inr (.inr (40, 0))), some (.inl w), some (.inl v2_63), none] [.inl j84] 122 s0 := by
                        intro j84 inv86
                        refine px_istore_n hG dX11_placeFor_103 (Nat.le_of_ble_eq_true rfl) (L2 := [some (.inr (.inr (40, 0))), some (.inl w), some (.inl v2_63), some (.inl j84)]) rfl ?_
                        refine px_aload_n hG dX11_placeFor_104 rfl ?_
                        refine gr_40_7 hG dX11_placeFor_105 fl_X11_23 R0 ?_
                        refine px_iload_n hG dX11_placeFor_108 rfl ?_
                        refine al_44 hG dX11_placeFor_109 R0 (by omega) (fun x87 ex87 lx87 ux87 => ?_)
                        have X9 := ex87
                        have XW : s0 40 0 0 = 0 → s0 44 0 (w + v2_63) = x87 := fun h => by rw [← (show j84 = w + v2_63 by omega)]; exact X9
                        refine px_if_ne hG dX11_placeFor_110 (tgt := 115) (by decide) ⟨by omega, by omega⟩ (fun c88 => ?_) (fun c88 => ?_)
                        · refine px_iinc hG dX11_placeFor_115 (Nat.le_of_ble_eq_true rfl) rfl (L2 := [some (.inr (.inr (40, 0))), some (.inl w), some (.inl (v2_63 + 1)), some (.inl j84)]) rfl ?_
                          refine px_goto hG dX11_placeFor_118 (tgt := 55) (by decide) ?_
                          refine px_weak hG (L2 := [some (.inr (.inr (40, 0))), some (.inl w), some (.inl (v2_63 + 1)), none]) ⟨Or.inr rfl, Or.inr rfl, Or.inr rfl, Or.inl rfl, trivial⟩ ?_
                          exact ih65 (v2_63 + 1) (⟨by omega, fun h => pm_occ_s (W h) (by rw [XW h]; omega)⟩) (by omega)
                        · refine px_iload_n hG dX11_placeFor_113 rfl ?_
                          exact px_iret (st := []) hG dX11_placeFor_114 rfl rfl (fun w_1 ee => by cases ee; exact ⟨_, rfl, rfl, ⟨by omega, by omega, by omega, fun h h1 => by omega⟩⟩)
                      refine px_ic_le hG dX11_placeFor_90 (tgt := 102) (by decide) ⟨by omega, by omega⟩ ⟨by omega, by omega⟩ (fun c83 => ?_) (fun c83 => ?_)
                      · refine px_iload_n hG dX11_placeFor_102 rfl ?_
                        refine px_weak hG (L2 := [some (.inr (.inr (40, 0))), some (.inl w), some (.inl v2_63), none]) ⟨Or.inr rfl, Or.inr rfl, Or.inr rfl, Or.inl rfl, trivial⟩ ?_
                        exact J103_85 (w + v2_63) (by omega)
                      · refine px_iload_n hG dX11_placeFor_93 rfl ?_
                        refine px_aload_n hG dX11_placeFor_94 rfl ?_
                        refine gi_40_1 hG dX11_placeFor_95 fl_X11_7 R0 (fun x89 ex89 lx89 ux89 => ?_)
                        refine px_isub hG dX11_placeFor_98 ?_
                        refine px_goto hG dX11_placeFor_99 (tgt := 103) (by decide) ?_
                        refine px_weak hG (L2 := [some (.inr (.inr (40, 0))), some (.inl w), some (.inl v2_63), none]) ⟨Or.inr rfl, Or.inr rfl, Or.inr rfl, Or.inl rfl, trivial⟩ ?_
                        exact J103_85 ((w + v2_63) - x89) (by omega)
                    · refine px_iconst hG dX11_placeFor_83 ?_
                      exact px_iret (st := []) hG dX11_placeFor_84 rfl rfl (fun w_1 ee => by cases ee; exact ⟨_, rfl, rfl, ⟨by omega, by omega, by omega, fun h _ q a b => W h q a (by omega) b⟩⟩)
            exact L64 _ 0 (⟨by omega, fun h q a b c => by omega⟩) (Nat.lt_succ_self _)
          · refine px_iload_n hG dX11_placeFor_26 rfl ?_
            refine px_iload_n hG dX11_placeFor_27 rfl ?_
            refine px_aload_n hG dX11_placeFor_28 rfl ?_
            refine gi_40_2 hG dX11_placeFor_29 fl_X11_107 R0 (fun x90 ex90 lx90 ux90 => ?_)
            refine px_isub hG dX11_placeFor_32 ?_
            refine px_ic_lt hG dX11_placeFor_33 (tgt := 53) (by decide) ⟨by omega, by omega⟩ ⟨by omega, by omega⟩ (fun c91 => ?_) (fun c91 => ?_)
            · refine px_iconst hG dX11_placeFor_53 ?_
              refine px_istore_n hG dX11_placeFor_54 (Nat.le_of_ble_eq_true rfl) (L2 := [some (.inr (.inr (40, 0))), some (.inl w), some (.inl 0), none]) rfl ?_
              have L93 : ∀ (N : Nat) (v2_92 : Int), ((0 ≤ v2_92 ∧ v2_92 ≤ 10000) ∧ (s0 40 0 0 = 0 → ∀ q : Int, w ≤ q → q < w + v2_92 → q ≤ s0 40 0 1 → s0 44 0 q ≠ 0)) → (10001 - v2_92).toNat < N → G 55 [some (.inr (.inr (40, 0))), some (.inl w), some (.inl v2_92), none] [] 122 s0 := by
                intro N
                induction N with
                | zero => intro v2_92 inv95 hm96; exact absurd hm96 (Nat.not_lt_zero _)
                | succ N ih94 =>
                  intro v2_92 inv95 hm96
                  have W := inv95.2
                  refine px_iload_n hG dX11_placeFor_55 rfl ?_
                  refine px_aload_n hG dX11_placeFor_56 rfl ?_
                  refine gi_40_1 hG dX11_placeFor_57 fl_X11_7 R0 (fun x97 ex97 lx97 ux97 => ?_)
                  refine px_ic_ge hG dX11_placeFor_60 (tgt := 121) (by decide) ⟨by omega, by omega⟩ ⟨by omega, by omega⟩ (fun c98 => ?_) (fun c98 => ?_)
                  · refine px_iconst hG dX11_placeFor_121 ?_
                    exact px_iret (st := []) hG dX11_placeFor_122 rfl rfl (fun w_1 ee => by cases ee; exact ⟨_, rfl, rfl, ⟨by omega, by omega, by omega, fun h _ q a b => W h q a (by omega) b⟩⟩)
                  · refine px_iload_n hG dX11_placeFor_63 rfl ?_
                    refine px_iload_n hG dX11_placeFor_64 rfl ?_
                    refine px_iadd hG dX11_placeFor_65 ?_
                    refine px_istore_n hG dX11_placeFor_66 (Nat.le_of_ble_eq_true rfl) (L2 := [some (.inr (.inr (40, 0))), some (.inl w), some (.inl v2_92), some (.inl (w + v2_92))]) rfl ?_
                    refine px_iload_n hG dX11_placeFor_67 rfl ?_
                    refine px_aload_n hG dX11_placeFor_68 rfl ?_
                    refine gi_40_1 hG dX11_placeFor_69 fl_X11_7 R0 (fun x99 ex99 lx99 ux99 => ?_)
                    refine px_ic_le hG dX11_placeFor_72 (tgt := 85) (by decide) ⟨by omega, by omega⟩ ⟨by omega, by omega⟩ (fun c100 => ?_) (fun c100 => ?_)
                    · refine px_iload_n hG dX11_placeFor_85 rfl ?_
                      refine px_aload_n hG dX11_placeFor_86 rfl ?_
                      refine gi_40_1 hG dX11_placeFor_87 fl_X11_7 R0 (fun x101 ex101 lx101 ux101 => ?_)
                      have J103_104 : ∀ (j103 : Int), (1 ≤ j103 ∧ j103 ≤ s0 40 0 1 ∧ (s0 40 0 0 = 0 → j103 = w + v2_92)) → G 103 [some (.inr (.inr (40, 0))), some (.inl w), some (.inl v2_92), none] [.inl j103] 122 s0 := by
                        intro j103 inv105
                        refine px_istore_n hG dX11_placeFor_103 (Nat.le_of_ble_eq_true rfl) (L2 := [some (.inr (.inr (40, 0))), some (.inl w), some (.inl v2_92), some (.inl j103)]) rfl ?_
                        refine px_aload_n hG dX11_placeFor_104 rfl ?_
                        refine gr_40_7 hG dX11_placeFor_105 fl_X11_23 R0 ?_
                        refine px_iload_n hG dX11_placeFor_108 rfl ?_
                        refine al_44 hG dX11_placeFor_109 R0 (by omega) (fun x106 ex106 lx106 ux106 => ?_)
                        have X9 := ex106
                        have XW : s0 40 0 0 = 0 → s0 44 0 (w + v2_92) = x106 := fun h => by rw [← (show j103 = w + v2_92 by omega)]; exact X9
                        refine px_if_ne hG dX11_placeFor_110 (tgt := 115) (by decide) ⟨by omega, by omega⟩ (fun c107 => ?_) (fun c107 => ?_)
                        · refine px_iinc hG dX11_placeFor_115 (Nat.le_of_ble_eq_true rfl) rfl (L2 := [some (.inr (.inr (40, 0))), some (.inl w), some (.inl (v2_92 + 1)), some (.inl j103)]) rfl ?_
                          refine px_goto hG dX11_placeFor_118 (tgt := 55) (by decide) ?_
                          refine px_weak hG (L2 := [some (.inr (.inr (40, 0))), some (.inl w), some (.inl (v2_92 + 1)), none]) ⟨Or.inr rfl, Or.inr rfl, Or.inr rfl, Or.inl rfl, trivial⟩ ?_
                          exact ih94 (v2_92 + 1) (⟨by omega, fun h => pm_occ_s (W h) (by rw [XW h]; omega)⟩) (by omega)
                        · refine px_iload_n hG dX11_placeFor_113 rfl ?_
                          exact px_iret (st := []) hG dX11_placeFor_114 rfl rfl (fun w_1 ee => by cases ee; exact ⟨_, rfl, rfl, ⟨by omega, by omega, by omega, fun h h1 => by omega⟩⟩)
                      refine px_ic_le hG dX11_placeFor_90 (tgt := 102) (by decide) ⟨by omega, by omega⟩ ⟨by omega, by omega⟩ (fun c102 => ?_) (fun c102 => ?_)
                      · refine px_iload_n hG dX11_placeFor_102 rfl ?_
                        refine px_weak hG (L2 := [some (.inr (.inr (40, 0))), some (.inl w), some (.inl v2_92), none]) ⟨Or.inr rfl, Or.inr rfl, Or.inr rfl, Or.inl rfl, trivial⟩ ?_
                        exact J103_104 (w + v2_92) (by omega)
                      · refine px_iload_n hG dX11_placeFor_93 rfl ?_
                        refine px_aload_n hG dX11_placeFor_94 rfl ?_
                        refine gi_40_1 hG dX11_placeFor_95 fl_X11_7 R0 (fun x108 ex108 lx108 ux108 => ?_)
                        refine px_isub hG dX11_placeFor_98 ?_
                        refine px_goto hG dX11_placeFor_99 (tgt := 103) (by decide) ?_
                        refine px_weak hG (L2 := [some (.inr (.inr (40, 0))), some (.inl w), some (.inl v2_92), none]) ⟨Or.inr rfl, Or.inr rfl, Or.inr rfl, Or.inl rfl, trivial⟩ ?_
                        exact J103_104 ((w + v2_92) - x108) (by omega)
                    · refine px_aload_n hG dX11_placeFor_75 rfl ?_
                      refine gi_40_0 hG dX11_placeFor_76 fl_X11_104 R0 (fun x109 ex109 lx109 ux109 => ?_)
                      refine px_iconst hG dX11_placeFor_79 ?_
                      refine px_ic_eq hG dX11_placeFor_80 (tgt := 85) (by decide) ⟨by omega, by omega⟩ ⟨by omega, by omega⟩ (fun c110 => ?_) (fun c110 => ?_)
                      · refine px_iload_n hG dX11_placeFor_85 rfl ?_
                        refine px_aload_n hG dX11_placeFor_86 rfl ?_
                        refine gi_40_1 hG dX11_placeFor_87 fl_X11_7 R0 (fun x111 ex111 lx111 ux111 => ?_)
                        have J103_114 : ∀ (j113 : Int), (1 ≤ j113 ∧ j113 ≤ s0 40 0 1 ∧ (s0 40 0 0 = 0 → j113 = w + v2_92)) → G 103 [some (.inr (.inr (40, 0))), some (.inl w), some (.inl v2_92), none] [.inl j113] 122 s0 := by
                          intro j113 inv115
                          refine px_istore_n hG dX11_placeFor_103 (Nat.le_of_ble_eq_true rfl) (L2 := [some (.inr (.inr (40, 0))), some (.inl w), some (.inl v2_92), some (.inl j113)]) rfl ?_
                          refine px_aload_n hG dX11_placeFor_104 rfl ?_
                          refine gr_40_7 hG dX11_placeFor_105 fl_X11_23 R0 ?_
                          refine px_iload_n hG dX11_placeFor_108 rfl ?_
                          refine al_44 hG dX11_placeFor_109 R0 (by omega) (fun x116 ex116 lx116 ux116 => ?_)
                          have X9 := ex116
                          have XW : s0 40 0 0 = 0 → s0 44 0 (w + v2_92) = x116 := fun h => by rw [← (show j113 = w + v2_92 by omega)]; exact X9
                          refine px_if_ne hG dX11_placeFor_110 (tgt := 115) (by decide) ⟨by omega, by omega⟩ (fun c117 => ?_) (fun c117 => ?_)
                          · refine px_iinc hG dX11_placeFor_115 (Nat.le_of_ble_eq_true rfl) rfl (L2 := [some (.inr (.inr (40, 0))), some (.inl w), some (.inl (v2_92 + 1)), some (.inl j113)]) rfl ?_
                            refine px_goto hG dX11_placeFor_118 (tgt := 55) (by decide) ?_
                            refine px_weak hG (L2 := [some (.inr (.inr (40, 0))), some (.inl w), some (.inl (v2_92 + 1)), none]) ⟨Or.inr rfl, Or.inr rfl, Or.inr rfl, Or.inl rfl, trivial⟩ ?_
                            exact ih94 (v2_92 + 1) (⟨by omega, fun h => pm_occ_s (W h) (by rw [XW h]; omega)⟩) (by omega)
                          · refine px_iload_n hG dX11_placeFor_113 rfl ?_
                            exact px_iret (st := []) hG dX11_placeFor_114 rfl rfl (fun w_1 ee => by cases ee; exact ⟨_, rfl, rfl, ⟨by omega, by omega, by omega, fun h h1 => by omega⟩⟩)
                        refine px_ic_le hG dX11_placeFor_90 (tgt := 102) (by decide) ⟨by omega, by omega⟩ ⟨by omega, by omega⟩ (fun c112 => ?_) (fun c112 => ?_)
                        · refine px_iload_n hG dX11_placeFor_102 rfl ?_
                          refine px_weak hG (L2 := [some (.inr (.inr (40, 0))), some (.inl w), some (.inl v2_92), none]) ⟨Or.inr rfl, Or.inr rfl, Or.inr rfl, Or.inl rfl, trivial⟩ ?_
                          exact J103_114 (w + v2_92) (by omega)
                        · refine px_iload_n hG dX11_placeFor_93 rfl ?_
                          refine px_aload_n hG dX11_placeFor_94 rfl ?_
                          refine gi_40_1 hG dX11_placeFor_95 fl_X11_7 R0 (fun x118 ex118 lx118 ux118 => ?_)
                          refine px_isub hG dX11_placeFor_98 ?_
                          refine px_goto hG dX11_placeFor_99 (tgt := 103) (by decide) ?_
                          refine px_weak hG (L2 := [some (.inr (.inr (40, 0))), some (.inl w), some (.inl v2_92), none]) ⟨Or.inr rfl, Or.inr rfl, Or.inr rfl, Or.inl rfl, trivial⟩ ?_
                          exact J103_114 ((w + v2_92) - x118) (by omega)
                      · refine px_iconst hG dX11_placeFor_83 ?_
                        exact px_iret (st := []) hG dX11_placeFor_84 rfl rfl (fun w_1 ee => by cases ee; exact ⟨_, rfl, rfl, ⟨by omega, by omega, by omega, fun h _ q a b => W h q a (by omega) b⟩⟩)
              exact L93 _ 0 (⟨by omega, fun h q a b c => by omega⟩) (Nat.lt_succ_self _)
            · refine px_aload_n hG dX11_placeFor_36 rfl ?_
              refine gr_40_7 hG dX11_placeFor_37 fl_X11_23 R0 ?_
              refine px_iload_n hG dX11_placeFor_40 rfl ?_
              refine al_44 hG dX11_placeFor_41 R0 (by omega) (fun x119 ex119 lx119 ux119 => ?_)
              refine px_if_ne hG dX11_placeFor_42 (tgt := 47) (by decide) ⟨by omega, by omega⟩ (fun c120 => ?_) (fun c120 => ?_)
              · refine px_iinc hG dX11_placeFor_47 (Nat.le_of_ble_eq_true rfl) rfl (L2 := [some (.inr (.inr (40, 0))), some (.inl w), some (.inl (v2_58 + -1)), none]) rfl ?_
                refine px_goto hG dX11_placeFor_50 (tgt := 21) (by decide) ?_
                exact ih59 (v2_58 + -1) (by omega) (by omega)
              · refine px_iload_n hG dX11_placeFor_45 rfl ?_
                exact px_iret (st := []) hG dX11_placeFor_46 rfl rfl (fun w_1 ee => by cases ee; exact ⟨_, rfl, rfl, ⟨by omega, by omega, by omega, fun h h1 => by omega⟩⟩)
      exact L21 _ (w - 1) (by omega) (Nat.lt_succ_self _))
def pre_X11_fits (as : List pm_V) (n : Nat) (σ : pm_H) : Prop := ∃ pl le : Int, as = [.inr (.inr (40, 0)), .inl pl, .inl le] ∧ n = 122 ∧ pm_Rng σ ∧ ((0 ≤ pl ∧ pl ≤ σ 40 0 1 ∧ 0 ≤ le ∧ le ≤ 4) ∧ pm_J2 σ)
def po_X11_fits (as : List pm_V) (_ : Nat) (σ : pm_H) (r : Option pm_V) (τ : pm_H) : Prop := ∀ pl le : Int, as = [.inr (.inr (40, 0)), .inl pl, .inl le] → ∃ v : Int, r = some (.inl v) ∧ σ = τ ∧ ((v = 0 ∨ v = 1) ∧ (v = 1 → 1 ≤ pl) ∧ (σ 40 0 0 = 0 → le = 1 → 1 ≤ pl → σ 44 0 pl = 0 → v = 1))
set_option maxRecDepth 20000 in
set_option maxHeartbeats 4000000 in
theorem ct_X11_fits : pm_Ct yX11_fits cX11_fits 5 (some .boolean) 0 0 pre_X11_fits po_X11_fits := pm_sound (ini := false) (by decide +kernel) pk_X11_fits (fun h => absurd h (by decide)) (by
  rintro as n s0 ⟨pl, le, rfl, rfl, R0, hpre⟩
  refine ⟨by decide, Nat.le_of_ble_eq_true rfl, fun G hG => ?_⟩
  have hG : pm_Rules (RX11, 0, 122, cX11_fits, -1, (fun _ => 0), false, (some .boolean), po_X11_fits [.inr (.inr (40, 0)), .inl pl, .inl le] 122 s0) G := hG
  show G 0 [some (.inr (.inr (40, 0))), some (.inl pl), some (.inl le), none, none] [] 122 s0
  have B0 := pb_40_0 R0
  have B1 := pb_40_1 R0
  have B2 := pb_40_2 R0
  have B3 := pb_40_3 R0
  have J2 := hpre.2
  have HP := hpre.1
  have JK := J2.1
  have JW := J2.2
  refine px_iload_n hG dX11_fits_0 rfl ?_
  refine px_if_eq hG dX11_fits_1 (tgt := 32) (by decide) ⟨by omega, by omega⟩ (fun c1 => ?_) (fun c1 => ?_)
  · refine px_iconst hG dX11_fits_32 ?_
    exact px_zret (st := []) hG dX11_fits_33 rfl (by omega) rfl (fun pl_1 le_1 ee => by cases ee; exact ⟨_, rfl, rfl, by omega⟩)
  · refine px_iload_n hG dX11_fits_4 rfl ?_
    refine px_aload_n hG dX11_fits_5 rfl ?_
    refine gi_40_1 hG dX11_fits_6 fl_X11_7 R0 (fun x2 ex2 lx2 ux2 => ?_)
    refine px_ic_gt hG dX11_fits_9 (tgt := 32) (by decide) ⟨by omega, by omega⟩ ⟨by omega, by omega⟩ (fun c3 => ?_) (fun c3 => ?_)
    · refine px_iconst hG dX11_fits_32 ?_
      exact px_zret (st := []) hG dX11_fits_33 rfl (by omega) rfl (fun pl_1 le_1 ee => by cases ee; exact ⟨_, rfl, rfl, by omega⟩)
    · refine px_aload_n hG dX11_fits_12 rfl ?_
      refine gi_40_0 hG dX11_fits_13 fl_X11_104 R0 (fun x4 ex4 lx4 ux4 => ?_)
      refine px_iconst hG dX11_fits_16 ?_
      refine px_ic_eq hG dX11_fits_17 (tgt := 34) (by decide) ⟨by omega, by omega⟩ ⟨by omega, by omega⟩ (fun c5 => ?_) (fun c5 => ?_)
      · refine px_iconst hG dX11_fits_34 ?_
        refine px_istore_n hG dX11_fits_35 (Nat.le_of_ble_eq_true rfl) (L2 := [some (.inr (.inr (40, 0))), some (.inl pl), some (.inl le), some (.inl 1), none]) rfl ?_
        refine px_iconst hG dX11_fits_36 ?_
        refine px_istore hG dX11_fits_37 (Nat.le_of_ble_eq_true rfl) (L2 := [some (.inr (.inr (40, 0))), some (.inl pl), some (.inl le), some (.inl 1), some (.inl 0)]) rfl ?_
        have L39 : ∀ (N : Nat) (v3_6 : Int) (v4_7 : Int), ((0 ≤ v4_7 ∧ v4_7 ≤ 10000) ∧ ((v3_6 = 0 ∨ v3_6 = 1) ∧ (s0 40 0 0 = 0 → le = 1 → 1 ≤ pl → s0 44 0 pl = 0 → v3_6 = 1))) → (10001 - v4_7).toNat < N → G 39 [some (.inr (.inr (40, 0))), some (.inl pl), some (.inl le), some (.inl v3_6), some (.inl v4_7)] [] 122 s0 := by
          intro N
          induction N with
          | zero => intro v3_6 v4_7 inv9 hm10; exact absurd hm10 (Nat.not_lt_zero _)
          | succ N ih8 =>
            intro v3_6 v4_7 inv9 hm10
            refine px_iload hG dX11_fits_39 rfl ?_
            refine px_iload_n hG dX11_fits_41 rfl ?_
            refine px_ic_ge hG dX11_fits_42 (tgt := 82) (by decide) ⟨by omega, by omega⟩ ⟨by omega, by omega⟩ (fun c11 => ?_) (fun c11 => ?_)
            · refine px_iload_n hG dX11_fits_82 rfl ?_
              exact px_zret (st := []) hG dX11_fits_83 rfl (by omega) rfl (fun pl_1 le_1 ee => by cases ee; exact ⟨_, rfl, rfl, by omega⟩)
            · refine px_iload_n hG dX11_fits_45 rfl ?_
              refine px_if_eq hG dX11_fits_46 (tgt := 74) (by decide) ⟨by omega, by omega⟩ (fun c12 => ?_) (fun c12 => ?_)
              · refine px_iconst hG dX11_fits_74 ?_
                refine px_istore_n hG dX11_fits_75 (Nat.le_of_ble_eq_true rfl) (L2 := [some (.inr (.inr (40, 0))), some (.inl pl), some (.inl le), some (.inl 0), some (.inl v4_7)]) rfl ?_
                refine px_iinc hG dX11_fits_76 (Nat.le_of_ble_eq_true rfl) rfl (L2 := [some (.inr (.inr (40, 0))), some (.inl pl), some (.inl le), some (.inl 0), some (.inl (v4_7 + 1))]) rfl ?_
                refine px_goto hG dX11_fits_79 (tgt := 39) (by decide) ?_
                exact ih8 0 (v4_7 + 1) (⟨by omega, by omega⟩) (by omega)
              · refine px_aload_n hG dX11_fits_49 rfl ?_
                refine gr_40_7 hG dX11_fits_50 fl_X11_23 R0 ?_
                refine px_iload_n hG dX11_fits_53 rfl ?_
                refine px_iload hG dX11_fits_54 rfl ?_
                refine px_iadd hG dX11_fits_56 ?_
                refine px_iconst hG dX11_fits_57 ?_
                refine px_isub hG dX11_fits_58 ?_
                refine px_aload_n hG dX11_fits_59 rfl ?_
                refine gi_40_1 hG dX11_fits_60 fl_X11_7 R0 (fun x13 ex13 lx13 ux13 => ?_)
                refine px_irem hG dX11_fits_63 ⟨by omega, by omega⟩ ⟨by omega, by omega⟩ ?_
                generalize hx14 : ((pl + v4_7) - 1) % x13 = x14
                have bx14 := pm_emod (x := (pl + v4_7) - 1) (y := x13) (by omega) hx14
                have EM : v4_7 = 0 → 1 ≤ pl → x14 = pl - 1 := fun h h2 => by rw [← hx14, Int.emod_eq_of_lt (by omega) (by omega)]; omega
                refine px_iconst hG dX11_fits_64 ?_
                refine px_iadd hG dX11_fits_65 ?_
                refine al_44 hG dX11_fits_66 R0 (by omega) (fun x15 ex15 lx15 ux15 => ?_)
                have X7 : le = 1 → 1 ≤ pl → s0 44 0 pl = x15 := fun h h1 => by have e2 := EM (by omega) h1; have e3 := ex15; rw [e2, show pl - 1 + 1 = pl by omega] at e3; exact e3
                refine px_if_ne hG dX11_fits_67 (tgt := 74) (by decide) ⟨by omega, by omega⟩ (fun c16 => ?_) (fun c16 => ?_)
                · refine px_iconst hG dX11_fits_74 ?_
                  refine px_istore_n hG dX11_fits_75 (Nat.le_of_ble_eq_true rfl) (L2 := [some (.inr (.inr (40, 0))), some (.inl pl), some (.inl le), some (.inl 0), some (.inl v4_7)]) rfl ?_
                  refine px_iinc hG dX11_fits_76 (Nat.le_of_ble_eq_true rfl) rfl (L2 := [some (.inr (.inr (40, 0))), some (.inl pl), some (.inl le), some (.inl 0), some (.inl (v4_7 + 1))]) rfl ?_
                  refine px_goto hG dX11_fits_79 (tgt := 39) (by decide) ?_
                  exact ih8 0 (v4_7 + 1) (⟨by omega, by omega⟩) (by omega)
                · refine px_iconst hG dX11_fits_70 ?_
                  refine px_goto hG dX11_fits_71 (tgt := 75) (by decide) ?_
                  refine px_istore_n hG dX11_fits_75 (Nat.le_of_ble_eq_true rfl) (L2 := [some (.inr (.inr (40, 0))), some (.inl pl), some (.inl le), some (.inl 1), some (.inl v4_7)]) rfl ?_
                  refine px_iinc hG dX11_fits_76 (Nat.le_of_ble_eq_true rfl) rfl (L2 := [some (.inr (.inr (40, 0))), some (.inl pl), some (.inl le), some (.inl 1), some (.inl (v4_7 + 1))]) rfl ?_
                  refine px_goto hG dX11_fits_79 (tgt := 39) (by decide) ?_
                  exact ih8 1 (v4_7 + 1) (⟨by omega, by omega⟩) (by omega)
        exact L39 _ 1 0 (⟨by omega, by omega⟩) (Nat.lt_succ_self _)
      · refine px_iload_n hG dX11_fits_20 rfl ?_
        refine px_iload_n hG dX11_fits_21 rfl ?_
        refine px_iadd hG dX11_fits_22 ?_
        refine px_iconst hG dX11_fits_23 ?_
        refine px_isub hG dX11_fits_24 ?_
        refine px_aload_n hG dX11_fits_25 rfl ?_
        refine gi_40_1 hG dX11_fits_26 fl_X11_7 R0 (fun x17 ex17 lx17 ux17 => ?_)
        refine px_ic_le hG dX11_fits_29 (tgt := 34) (by decide) ⟨by omega, by omega⟩ ⟨by omega, by omega⟩ (fun c18 => ?_) (fun c18 => ?_)
        · refine px_iconst hG dX11_fits_34 ?_
          refine px_istore_n hG dX11_fits_35 (Nat.le_of_ble_eq_true rfl) (L2 := [some (.inr (.inr (40, 0))), some (.inl pl), some (.inl le), some (.inl 1), none]) rfl ?_
          refine px_iconst hG dX11_fits_36 ?_
          refine px_istore hG dX11_fits_37 (Nat.le_of_ble_eq_true rfl) (L2 := [some (.inr (.inr (40, 0))), some (.inl pl), some (.inl le), some (.inl 1), some (.inl 0)]) rfl ?_
          have L21 : ∀ (N : Nat) (v3_19 : Int) (v4_20 : Int), ((0 ≤ v4_20 ∧ v4_20 ≤ 10000) ∧ ((v3_19 = 0 ∨ v3_19 = 1) ∧ (s0 40 0 0 = 0 → le = 1 → 1 ≤ pl → s0 44 0 pl = 0 → v3_19 = 1))) → (10001 - v4_20).toNat < N → G 39 [some (.inr (.inr (40, 0))), some (.inl pl), some (.inl le), some (.inl v3_19), some (.inl v4_20)] [] 122 s0 := by
            intro N
            induction N with
            | zero => intro v3_19 v4_20 inv23 hm24; exact absurd hm24 (Nat.not_lt_zero _)
            | succ N ih22 =>
              intro v3_19 v4_20 inv23 hm24
              refine px_iload hG dX11_fits_39 rfl ?_
              refine px_iload_n hG dX11_fits_41 rfl ?_
              refine px_ic_ge hG dX11_fits_42 (tgt := 82) (by decide) ⟨by omega, by omega⟩ ⟨by omega, by omega⟩ (fun c25 => ?_) (fun c25 => ?_)
              · refine px_iload_n hG dX11_fits_82 rfl ?_
                exact px_zret (st := []) hG dX11_fits_83 rfl (by omega) rfl (fun pl_1 le_1 ee => by cases ee; exact ⟨_, rfl, rfl, by omega⟩)
              · refine px_iload_n hG dX11_fits_45 rfl ?_
                refine px_if_eq hG dX11_fits_46 (tgt := 74) (by decide) ⟨by omega, by omega⟩ (fun c26 => ?_) (fun c26 => ?_)
                · refine px_iconst hG dX11_fits_74 ?_
                  refine px_istore_n hG dX11_fits_75 (Nat.le_of_ble_eq_true rfl) (L2 := [some (.inr (.inr (40, 0))), some (.inl pl), some (.inl le), some (.inl 0), some (.inl v4_20)]) rfl ?_
                  refine px_iinc hG dX11_fits_76 (Nat.le_of_ble_eq_true rfl) rfl (L2 := [some (.inr (.inr (40, 0))), some (.inl pl), some (.inl le), some (.inl 0), some (.inl (v4_20 + 1))]) rfl ?_
                  refine px_goto hG dX11_fits_79 (tgt := 39) (by decide) ?_
                  exact ih22 0 (v4_20 + 1) (⟨by omega, by omega⟩) (by omega)
                · refine px_aload_n hG dX11_fits_49 rfl ?_
                  refine gr_40_7 hG dX11_fits_50 fl_X11_23 R0 ?_
                  refine px_iload_n hG dX11_fits_53 rfl ?_
                  refine px_iload hG dX11_fits_54 rfl ?_
                  refine px_iadd hG dX11_fits_56 ?_
                  refine px_iconst hG dX11_fits_57 ?_
                  refine px_isub hG dX11_fits_58 ?_
                  refine px_aload_n hG dX11_fits_59 rfl ?_
                  refine gi_40_1 hG dX11_fits_60 fl_X11_7 R0 (fun x27 ex27 lx27 ux27 => ?_)
                  refine px_irem hG dX11_fits_63 ⟨by omega, by omega⟩ ⟨by omega, by omega⟩ ?_
                  generalize hx28 : ((pl + v4_20) - 1) % x27 = x28
                  have bx28 := pm_emod (x := (pl + v4_20) - 1) (y := x27) (by omega) hx28
                  have EM : v4_20 = 0 → 1 ≤ pl → x28 = pl - 1 := fun h h2 => by rw [← hx28, Int.emod_eq_of_lt (by omega) (by omega)]; omega
                  refine px_iconst hG dX11_fits_64 ?_
                  refine px_iadd hG dX11_fits_65 ?_
                  refine al_44 hG dX11_fits_66 R0 (by omega) (fun x29 ex29 lx29 ux29 => ?_)
                  have X7 : le = 1 → 1 ≤ pl → s0 44 0 pl = x29 := fun h h1 => by have e2 := EM (by omega) h1; have e3 := ex29; rw [e2, show pl - 1 + 1 = pl by omega] at e3; exact e3
                  refine px_if_ne hG dX11_fits_67 (tgt := 74) (by decide) ⟨by omega, by omega⟩ (fun c30 => ?_) (fun c30 => ?_)
                  · refine px_iconst hG dX11_fits_74 ?_
                    refine px_istore_n hG dX11_fits_75 (Nat.le_of_ble_eq_true rfl) (L2 := [some (.inr (.inr (40, 0))), some (.inl pl), some (.inl le), some (.inl 0), some (.inl v4_20)]) rfl ?_
                    refine px_iinc hG dX11_fits_76 (Nat.le_of_ble_eq_true rfl) rfl (L2 := [some (.inr (.inr (40, 0))), some (.inl pl), some (.inl le), some (.inl 0), some (.inl (v4_20 + 1))]) rfl ?_
                    refine px_goto hG dX11_fits_79 (tgt := 39) (by decide) ?_
                    exact ih22 0 (v4_20 + 1) (⟨by omega, by omega⟩) (by omega)
                  · refine px_iconst hG dX11_fits_70 ?_
                    refine px_goto hG dX11_fits_71 (tgt := 75) (by decide) ?_
                    refine px_istore_n hG dX11_fits_75 (Nat.le_of_ble_eq_true rfl) (L2 := [some (.inr (.inr (40, 0))), some (.inl pl), some (.inl le), some (.inl 1), some (.inl v4_20)]) rfl ?_
                    refine px_iinc hG dX11_fits_76 (Nat.le_of_ble_eq_true rfl) rfl (L2 := [some (.inr (.inr (40, 0))), some (.inl pl), some (.inl le), some (.inl 1), some (.inl (v4_20 + 1))]) rfl ?_
                    refine px_goto hG dX11_fits_79 (tgt := 39) (by decide) ?_
                    exact ih22 1 (v4_20 + 1) (⟨by omega, by omega⟩) (by omega)
          exact L21 _ 1 0 (⟨by omega, by omega⟩) (Nat.lt_succ_self _)
        · refine px_iconst hG dX11_fits_32 ?_
          exact px_zret (st := []) hG dX11_fits_33 rfl (by omega) rfl (fun pl_1 le_1 ee => by cases ee; exact ⟨_, rfl, rfl, by omega⟩))
def pre_X11_drive (as : List pm_V) (n : Nat) (σ : pm_H) : Prop := as = [.inr (.inr (40, 0))] ∧ n = 122 ∧ pm_Rng σ ∧ (pm_J2 σ)
def po_X11_drive (as : List pm_V) (_ : Nat) (σ : pm_H) (r : Option pm_V) (τ : pm_H) : Prop := as = [.inr (.inr (40, 0))] → r = none ∧ pm_Rng τ ∧ pm_Fr [(43, none), (44, none)] σ τ ∧ (pm_PD σ τ (σ 40 0 3 + 1))
set_option maxRecDepth 20000 in
set_option maxHeartbeats 4000000 in
theorem ct_X11_drive : pm_Ct yX11_drive cX11_drive 4 none 1 0 pre_X11_drive po_X11_drive := pm_sound (ini := false) (by decide +kernel) pk_X11_drive (fun h => absurd h (by decide)) (by
  rintro as n s0 ⟨rfl, rfl, R0, hpre⟩
  refine ⟨by decide, Nat.le_of_ble_eq_true rfl, fun G hG => ?_⟩
  have hG : pm_Rules (RX11, 1, 122, cX11_drive, -1, (fun _ => 0), false, none, po_X11_drive [.inr (.inr (40, 0))] 122 s0) G := hG
  show G 0 [some (.inr (.inr (40, 0))), none, none, none] [] 122 s0
  have B0 := pb_40_0 R0
  have B1 := pb_40_1 R0
  have B2 := pb_40_2 R0
  have B3 := pb_40_3 R0
  have J2 := hpre
  have JK := J2.1
  have JW := J2.2
  refine px_iconst hG dX11_drive_0 ?_
  refine px_istore_n hG dX11_drive_1 (Nat.le_of_ble_eq_true rfl) (L2 := [some (.inr (.inr (40, 0))), some (.inl 0), none, none]) rfl ?_
  have L2 : ∀ (N : Nat) (v1_1 : Int) (s2 : pm_H), pm_Rng s2 → pm_Fr [(43, none), (44, none)] s0 s2 → ((0 ≤ v1_1 ∧ v1_1 ≤ 10000)) → (10001 - v1_1).toNat < N → G 2 [some (.inr (.inr (40, 0))), some (.inl v1_1), none, none] [] 122 s2 := by
    intro N
    induction N with
    | zero => intro v1_1 s2 R3 F4 inv6 hm7; exact absurd hm7 (Nat.not_lt_zero _)
    | succ N ih5 =>
      intro v1_1 s2 R3 F4 inv6 hm7
      have jj8 := F4 40 0 0 rfl
      have jj9 := F4 40 0 1 rfl
      have jj10 := F4 40 0 2 rfl
      have jj11 := F4 40 0 3 rfl
      refine px_iload_n hG dX11_drive_2 rfl ?_
      refine px_bipush hG dX11_drive_3 (by decide) ?_
      have J21_13 : ((v1_1 > 10)) → G 21 [some (.inr (.inr (40, 0))), none, none, none] [] 122 s2 := by
        intro inv14
        refine px_iconst hG dX11_drive_21 ?_
        refine px_istore_n hG dX11_drive_22 (Nat.le_of_ble_eq_true rfl) (L2 := [some (.inr (.inr (40, 0))), some (.inl 1), none, none]) rfl ?_
        have L23 : ∀ (N : Nat) (v1_15 : Int) (s16 : pm_H), pm_Rng s16 → pm_Fr [(43, none), (44, none)] s0 s16 → ((1 ≤ v1_15 ∧ v1_15 ≤ 10000) ∧ (pm_PD s0 s16 v1_15 ∧ v1_15 ≤ s0 40 0 3 + 1)) → (10001 - v1_15).toNat < N → G 23 [some (.inr (.inr (40, 0))), some (.inl v1_15), none, none] [] 122 s16 := by
          intro N
          induction N with
          | zero => intro v1_15 s16 R17 F18 inv20 hm21; exact absurd hm21 (Nat.not_lt_zero _)
          | succ N ih19 =>
            intro v1_15 s16 R17 F18 inv20 hm21
            have jj22 := F18 40 0 0 rfl
            have jj23 := F18 40 0 1 rfl
            have jj24 := F18 40 0 2 rfl
            have jj25 := F18 40 0 3 rfl
            have D := (inv20.2).1
            have D2 := (inv20.2).2
            refine px_iload_n hG dX11_drive_23 rfl ?_
            refine px_aload_n hG dX11_drive_24 rfl ?_
            refine gi_40_3 hG dX11_drive_25 fl_X11_110 R17 (fun x26 ex26 lx26 ux26 => ?_)
            have ex26 : s0 40 0 3 = x26 := (F18 40 0 3 rfl).symm.trans ex26
            refine px_ic_gt hG dX11_drive_28 (tgt := 118) (by decide) ⟨by omega, by omega⟩ ⟨by omega, by omega⟩ (fun c27 => ?_) (fun c27 => ?_)
            · have DE : v1_15 = s0 40 0 3 + 1 := by omega
              rw [DE] at D
              have jj28 := F18 40 0 0 rfl
              have jj29 := F18 40 0 1 rfl
              have jj30 := F18 40 0 2 rfl
              have jj31 := F18 40 0 3 rfl
              exact px_vret (st := []) hG dX11_drive_118 rfl rfl (fun _ => by exact ⟨rfl, R17, F18, D⟩)
            · refine px_aload_n hG dX11_drive_31 rfl ?_
              refine px_aload_n hG dX11_drive_32 rfl ?_
              refine gr_40_4 hG dX11_drive_33 fl_X11_13 R17 ?_
              refine px_iload_n hG dX11_drive_36 rfl ?_
              refine al_41 hG dX11_drive_37 R17 (by omega) (fun x32 ex32 lx32 ux32 => ?_)
              have X1 := (F18 41 0 v1_15 rfl).symm.trans ex32
              have X2 := JW v1_15 (by omega) (by omega)
              refine jv1 hG dX11_drive_38 ct_X11_placeFor lk_X11_123 ⟨rfl, rfl⟩ (by decide) ⟨Nat.le_of_ble_eq_true rfl, Nat.le_of_ble_eq_true rfl, Nat.le_of_ble_eq_true rfl⟩ (Nat.le_of_ble_eq_true rfl) ⟨x32, rfl, rfl, R17, ⟨by omega, (pm_J2_fr F18 rfl J2)⟩⟩ (fun r33 t34 pr33 => ?_)
              obtain ⟨x35, rfl, rfl, br33⟩ := pr33 _ rfl
              show G 41 [some (.inr (.inr (40, 0))), some (.inl v1_15), none, none] [.inl x35] 122 s16
              have PF := br33
              refine px_istore_n hG dX11_drive_41 (Nat.le_of_ble_eq_true rfl) (L2 := [some (.inr (.inr (40, 0))), some (.inl v1_15), some (.inl x35), none]) rfl ?_
              refine px_aload_n hG dX11_drive_42 rfl ?_
              refine gr_40_6 hG dX11_drive_43 fl_X11_20 R17 ?_
              refine px_iload_n hG dX11_drive_46 rfl ?_
              refine px_aload_n hG dX11_drive_47 rfl ?_
              refine px_iload_n hG dX11_drive_48 rfl ?_
              refine px_aload_n hG dX11_drive_49 rfl ?_
              refine gr_40_5 hG dX11_drive_50 fl_X11_17 R17 ?_
              refine px_iload_n hG dX11_drive_53 rfl ?_
              refine al_42 hG dX11_drive_54 R17 (by omega) (fun x36 ex36 lx36 ux36 => ?_)
              refine jv2 hG dX11_drive_55 ct_X11_fits lk_X11_127 ⟨rfl, rfl⟩ (by decide) ⟨Nat.le_of_ble_eq_true rfl, Nat.le_of_ble_eq_true rfl, Nat.le_of_ble_eq_true rfl⟩ (Nat.le_of_ble_eq_true rfl) ⟨x35, x36, rfl, rfl, R17, ⟨by omega, (pm_J2_fr F18 rfl J2)⟩⟩ (fun r37 t38 pr37 => ?_)
              obtain ⟨x39, rfl, rfl, br37⟩ := pr37 _ _ rfl
              show G 58 [some (.inr (.inr (40, 0))), some (.inl v1_15), some (.inl x35), none] [.inl x39, .inl v1_15, .inr (.inr (43, 0))] 122 s16
              have J66_42 : ∀ (j41 : Int), ((x39 = 0 ∧ j41 = 0) ∨ (¬ (x39 = 0) ∧ j41 = x35)) → G 66 [some (.inr (.inr (40, 0))), some (.inl v1_15), some (.inl x35), none] [.inl j41, .inl v1_15, .inr (.inr (43, 0))] 122 s16 := by
                intro j41 inv43
                refine as_43 hG dX11_drive_66 R17 (by omega) (by omega) (fun s44 qs44 Rs44 => ?_)
                have Fs44 := pm_Fr_up (F18) qs44 (M := [(43, none), (44, none)]) rfl
                have jj45 := pm_nec qs44 (c' := 40) (r' := 0) (i' := 0) (by decide)
                have jj46 := pm_nec qs44 (c' := 40) (r' := 0) (i' := 1) (by decide)
                have jj47 := pm_nec qs44 (c' := 40) (r' := 0) (i' := 2) (by decide)
                have jj48 := pm_nec qs44 (c' := 40) (r' := 0) (i' := 3) (by decide)
                have E1 := qs44
                have E1A := pm_at E1
                have PE0 := pm_PE_0 (p := x35) D E1 (fun h h1 => by have PF2 := PF.2.2.1 (by omega) h1; rw [X1]; exact PF2)
                refine px_iconst hG dX11_drive_67 ?_
                refine px_istore_n hG dX11_drive_68 (Nat.le_of_ble_eq_true rfl) (L2 := [some (.inr (.inr (40, 0))), some (.inl v1_15), some (.inl x35), some (.inl 0)]) rfl ?_
                have L69 : ∀ (N : Nat) (v3_49 : Int) (s50 : pm_H), pm_Rng s50 → pm_Fr [(43, none), (44, none)] s0 s50 → ((0 ≤ v3_49 ∧ v3_49 ≤ 10000) ∧ ((s50 43 0 v1_15 = x35 ∨ s50 43 0 v1_15 = 0) ∧ pm_PE s0 s50 v1_15 x35 v3_49)) → (10001 - v3_49).toNat < N → G 69 [some (.inr (.inr (40, 0))), some (.inl v1_15), some (.inl x35), some (.inl v3_49)] [] 122 s50 := by
                  intro N
                  induction N with
                  | zero => intro v3_49 s50 R51 F52 inv54 hm55; exact absurd hm55 (Nat.not_lt_zero _)
                  | succ N ih53 =>
                    intro v3_49 s50 R51 F52 inv54 hm55
                    have jj56 := F52 40 0 0 rfl
                    have jj57 := F52 40 0 1 rfl
                    have jj58 := F52 40 0 2 rfl
                    have jj59 := F52 40 0 3 rfl
                    have U := (inv54.2).1
                    have PE := (inv54.2).2
                    refine px_iload_n hG dX11_drive_69 rfl ?_
                    refine px_aload_n hG dX11_drive_70 rfl ?_
                    refine gr_40_5 hG dX11_drive_71 fl_X11_17 R51 ?_
                    refine px_iload_n hG dX11_drive_74 rfl ?_
                    refine al_42 hG dX11_drive_75 R51 (by omega) (fun x60 ex60 lx60 ux60 => ?_)
                    have X4 := (F52 42 0 v1_15 rfl).symm.trans ex60
                    refine px_ic_ge hG dX11_drive_76 (tgt := 112) (by decide) ⟨by omega, by omega⟩ ⟨by omega, by omega⟩ (fun c61 => ?_) (fun c61 => ?_)
                    · refine px_iinc hG dX11_drive_112 (Nat.le_of_ble_eq_true rfl) rfl (L2 := [some (.inr (.inr (40, 0))), some (.inl (v1_15 + 1)), some (.inl x35), some (.inl v3_49)]) rfl ?_
                      refine px_goto hG dX11_drive_115 (tgt := 23) (by decide) ?_
                      refine px_weak hG (L2 := [some (.inr (.inr (40, 0))), some (.inl (v1_15 + 1)), none, none]) ⟨Or.inr rfl, Or.inr rfl, Or.inl rfl, Or.inl rfl, trivial⟩ ?_
                      exact ih19 (v1_15 + 1) s50 R51 F52 (⟨by omega, ⟨pm_PD_s PE (by omega) (by omega), by omega⟩⟩) (by omega)
                    · refine px_aload_n hG dX11_drive_79 rfl ?_
                      refine gr_40_6 hG dX11_drive_80 fl_X11_20 R51 ?_
                      refine px_iload_n hG dX11_drive_83 rfl ?_
                      refine al_43 hG dX11_drive_84 R51 (by omega) (fun x62 ex62 lx62 ux62 => ?_)
                      have X3 := ex62
                      refine px_if_le hG dX11_drive_85 (tgt := 112) (by decide) ⟨by omega, by omega⟩ (fun c63 => ?_) (fun c63 => ?_)
                      · refine px_iinc hG dX11_drive_112 (Nat.le_of_ble_eq_true rfl) rfl (L2 := [some (.inr (.inr (40, 0))), some (.inl (v1_15 + 1)), some (.inl x35), some (.inl v3_49)]) rfl ?_
                        refine px_goto hG dX11_drive_115 (tgt := 23) (by decide) ?_
                        refine px_weak hG (L2 := [some (.inr (.inr (40, 0))), some (.inl (v1_15 + 1)), none, none]) ⟨Or.inr rfl, Or.inr rfl, Or.inl rfl, Or.inl rfl, trivial⟩ ?_
                        exact ih19 (v1_15 + 1) s50 R51 F52 (⟨by omega, ⟨pm_PD_s PE (by omega) (by omega), by omega⟩⟩) (by omega)
                      · refine px_aload_n hG dX11_drive_88 rfl ?_
                        refine gr_40_7 hG dX11_drive_89 fl_X11_23 R51 ?_
                        refine px_iload_n hG dX11_drive_92 rfl ?_
                        refine px_iload_n hG dX11_drive_93 rfl ?_
                        refine px_iadd hG dX11_drive_94 ?_
                        refine px_iconst hG dX11_drive_95 ?_
                        refine px_isub hG dX11_drive_96 ?_
                        refine px_aload_n hG dX11_drive_97 rfl ?_
                        refine gi_40_1 hG dX11_drive_98 fl_X11_7 R51 (fun x64 ex64 lx64 ux64 => ?_)
                        have ex64 : s0 40 0 1 = x64 := (F52 40 0 1 rfl).symm.trans ex64
                        refine px_irem hG dX11_drive_101 ⟨by omega, by omega⟩ ⟨by omega, by omega⟩ ?_
                        generalize hx65 : ((x35 + v3_49) - 1) % x64 = x65
                        have bx65 := pm_emod (x := (x35 + v3_49) - 1) (y := x64) (by omega) hx65
                        have EM : v3_49 = 0 → 1 ≤ x35 → x65 = x35 - 1 := fun h h2 => by rw [← hx65, Int.emod_eq_of_lt (by omega) (by omega)]; omega
                        refine px_iconst hG dX11_drive_102 ?_
                        refine px_iadd hG dX11_drive_103 ?_
                        refine px_iload_n hG dX11_drive_104 rfl ?_
                        refine as_44 hG dX11_drive_105 R51 (by omega) (by omega) (fun s66 qs66 Rs66 => ?_)
                        have Fs66 := pm_Fr_up (F52) qs66 (M := [(43, none), (44, none)]) rfl
                        have jj67 := pm_nec qs66 (c' := 40) (r' := 0) (i' := 0) (by decide)
                        have jj68 := pm_nec qs66 (c' := 40) (r' := 0) (i' := 1) (by decide)
                        have jj69 := pm_nec qs66 (c' := 40) (r' := 0) (i' := 2) (by decide)
                        have jj70 := pm_nec qs66 (c' := 40) (r' := 0) (i' := 3) (by decide)
                        have E2 := qs66
                        have E2A := pm_nec E2 (c' := 43) (r' := 0) (i' := v1_15) (by decide)
                        have PES := pm_PE_s PE E2 (by omega) (by omega) (by omega) (by omega) (fun h => by have EM2 := EM h (by omega); omega)
                        refine px_iinc hG dX11_drive_106 (Nat.le_of_ble_eq_true rfl) rfl (L2 := [some (.inr (.inr (40, 0))), some (.inl v1_15), some (.inl x35), some (.inl (v3_49 + 1))]) rfl ?_
                        refine px_goto hG dX11_drive_109 (tgt := 69) (by decide) ?_
                        exact ih53 (v3_49 + 1) s66 Rs66 Fs66 (⟨by omega, ⟨by omega, PES⟩⟩) (by omega)
                exact L69 _ 0 s44 Rs44 Fs44 (⟨by omega, ⟨by omega, PE0⟩⟩) (Nat.lt_succ_self _)
              refine px_if_eq hG dX11_drive_58 (tgt := 65) (by decide) ⟨by omega, by omega⟩ (fun c40 => ?_) (fun c40 => ?_)
              · refine px_iconst hG dX11_drive_65 ?_
                exact J66_42 0 (by omega)
              · refine px_iload_n hG dX11_drive_61 rfl ?_
                refine px_goto hG dX11_drive_62 (tgt := 66) (by decide) ?_
                exact J66_42 x35 (by omega)
        exact L23 _ 1 s2 R3 F4 (⟨by omega, ⟨pm_PD_0, by omega⟩⟩) (Nat.lt_succ_self _)
      refine px_ic_gt hG dX11_drive_5 (tgt := 21) (by decide) ⟨by omega, by omega⟩ ⟨by omega, by omega⟩ (fun c12 => ?_) (fun c12 => ?_)
      · refine px_weak hG (L2 := [some (.inr (.inr (40, 0))), none, none, none]) ⟨Or.inr rfl, Or.inl rfl, Or.inr rfl, Or.inr rfl, trivial⟩ ?_
        exact J21_13  (by omega)
      · refine px_aload_n hG dX11_drive_8 rfl ?_
        refine gr_40_7 hG dX11_drive_9 fl_X11_23 R3 ?_
        refine px_iload_n hG dX11_drive_12 rfl ?_
        refine px_iconst hG dX11_drive_13 ?_
        refine as_44 hG dX11_drive_14 R3 (by omega) (by omega) (fun s71 qs71 Rs71 => ?_)
        have Fs71 := pm_Fr_up (F4) qs71 (M := [(43, none), (44, none)]) rfl
        have jj72 := pm_nec qs71 (c' := 40) (r' := 0) (i' := 0) (by decide)
        have jj73 := pm_nec qs71 (c' := 40) (r' := 0) (i' := 1) (by decide)
        have jj74 := pm_nec qs71 (c' := 40) (r' := 0) (i' := 2) (by decide)
        have jj75 := pm_nec qs71 (c' := 40) (r' := 0) (i' := 3) (by decide)
        refine px_iinc hG dX11_drive_15 (Nat.le_of_ble_eq_true rfl) rfl (L2 := [some (.inr (.inr (40, 0))), some (.inl (v1_1 + 1)), none, none]) rfl ?_
        refine px_goto hG dX11_drive_18 (tgt := 2) (by decide) ?_
        exact ih5 (v1_1 + 1) s71 Rs71 Fs71 (by omega) (by omega)
  exact L2 _ 0 s0 R0 pm_Fr_rf (by omega) (Nat.lt_succ_self _))
def pre_X11_goes (as : List pm_V) (n : Nat) (σ : pm_H) : Prop := ∃ ca : Int, as = [.inr (.inr (40, 0)), .inl ca] ∧ n = 122 ∧ pm_Rng σ ∧ ((1 ≤ ca ∧ ca ≤ σ 40 0 3) ∧ pm_J2 σ)
def po_X11_goes (as : List pm_V) (_ : Nat) (σ : pm_H) (r : Option pm_V) (τ : pm_H) : Prop := ∀ ca : Int, as = [.inr (.inr (40, 0)), .inl ca] → ∃ v : Int, r = some (.inl v) ∧ σ = τ ∧ (-20 ≤ v ∧ v ≤ 20)
set_option maxRecDepth 20000 in
set_option maxHeartbeats 4000000 in
theorem ct_X11_goes : pm_Ct yX11_goes cX11_goes 3 (some .int) 0 0 pre_X11_goes po_X11_goes := pm_sound (ini := false) (by decide +kernel) pk_X11_goes (fun h => absurd h (by decide)) (by
  rintro as n s0 ⟨ca, rfl, rfl, R0, hpre⟩
  refine ⟨by decide, Nat.le_of_ble_eq_true rfl, fun G hG => ?_⟩
  have hG : pm_Rules (RX11, 0, 122, cX11_goes, -1, (fun _ => 0), false, (some .int), po_X11_goes [.inr (.inr (40, 0)), .inl ca] 122 s0) G := hG
  show G 0 [some (.inr (.inr (40, 0))), some (.inl ca), none] [] 122 s0
  have B0 := pb_40_0 R0
  have B1 := pb_40_1 R0
  have B2 := pb_40_2 R0
  have B3 := pb_40_3 R0
  have J2 := hpre.2
  have HP := hpre.1
  have JK := J2.1
  have JW := J2.2
  have X2 := JW ca (by omega) (by omega)
  refine px_aload_n hG dX11_goes_0 rfl ?_
  refine gr_40_6 hG dX11_goes_1 fl_X11_20 R0 ?_
  refine px_iload_n hG dX11_goes_4 rfl ?_
  refine al_43 hG dX11_goes_5 R0 (by omega) (fun x1 ex1 lx1 ux1 => ?_)
  refine px_aload_n hG dX11_goes_6 rfl ?_
  refine gr_40_4 hG dX11_goes_7 fl_X11_13 R0 ?_
  refine px_iload_n hG dX11_goes_10 rfl ?_
  refine al_41 hG dX11_goes_11 R0 (by omega) (fun x2 ex2 lx2 ux2 => ?_)
  refine px_isub hG dX11_goes_12 ?_
  refine px_istore_n hG dX11_goes_13 (Nat.le_of_ble_eq_true rfl) (L2 := [some (.inr (.inr (40, 0))), some (.inl ca), some (.inl (x1 - x2))]) rfl ?_
  refine px_aload_n hG dX11_goes_14 rfl ?_
  refine gi_40_0 hG dX11_goes_15 fl_X11_104 R0 (fun x3 ex3 lx3 ux3 => ?_)
  refine px_iconst hG dX11_goes_18 ?_
  refine px_ic_ne hG dX11_goes_19 (tgt := 36) (by decide) ⟨by omega, by omega⟩ ⟨by omega, by omega⟩ (fun c4 => ?_) (fun c4 => ?_)
  · refine px_iload_n hG dX11_goes_36 rfl ?_
    refine px_if_ge hG dX11_goes_37 (tgt := 45) (by decide) ⟨by omega, by omega⟩ (fun c5 => ?_) (fun c5 => ?_)
    · refine px_iload_n hG dX11_goes_45 rfl ?_
      exact px_iret (st := []) hG dX11_goes_46 rfl rfl (fun ca_1 ee => by cases ee; exact ⟨_, rfl, rfl, by omega⟩)
    · refine px_iload_n hG dX11_goes_40 rfl ?_
      refine px_ineg hG dX11_goes_41 ?_
      refine px_goto hG dX11_goes_42 (tgt := 46) (by decide) ?_
      exact px_iret (st := []) hG dX11_goes_46 rfl rfl (fun ca_1 ee => by cases ee; exact ⟨_, rfl, rfl, by omega⟩)
  · refine px_iload_n hG dX11_goes_22 rfl ?_
    refine px_aload_n hG dX11_goes_23 rfl ?_
    refine gi_40_1 hG dX11_goes_24 fl_X11_7 R0 (fun x6 ex6 lx6 ux6 => ?_)
    refine px_iadd hG dX11_goes_27 ?_
    refine px_aload_n hG dX11_goes_28 rfl ?_
    refine gi_40_1 hG dX11_goes_29 fl_X11_7 R0 (fun x7 ex7 lx7 ux7 => ?_)
    refine px_irem hG dX11_goes_32 ⟨by omega, by omega⟩ ⟨by omega, by omega⟩ ?_
    generalize hx8 : ((x1 - x2) + x6) % x7 = x8
    have bx8 := pm_emod (x := (x1 - x2) + x6) (y := x7) (by omega) hx8
    refine px_goto hG dX11_goes_33 (tgt := 46) (by decide) ?_
    exact px_iret (st := []) hG dX11_goes_46 rfl rfl (fun ca_1 ee => by cases ee; exact ⟨_, rfl, rfl, by omega⟩))
def pre_X11_isGood (as : List pm_V) (n : Nat) (σ : pm_H) : Prop := as = [.inr (.inr (40, 0))] ∧ n = 122 ∧ pm_Rng σ ∧ (pm_J2 σ)
def po_X11_isGood (as : List pm_V) (_ : Nat) (σ : pm_H) (r : Option pm_V) (τ : pm_H) : Prop := as = [.inr (.inr (40, 0))] → ∃ v : Int, r = some (.inl v) ∧ pm_Rng τ ∧ pm_Fr [(43, none), (44, none)] σ τ ∧ ((v = 0 ∨ v = 1) ∧ (v = 1 → pm_pl σ → (∀ p : Int, 0 ≤ p → p ≤ σ 40 0 1 → pm_gt (σ 41 0) p (σ 40 0 3).toNat ≤ σ 40 0 1 - p)))
set_option maxRecDepth 20000 in
set_option maxHeartbeats 4000000 in
theorem ct_X11_isGood : pm_Ct yX11_isGood cX11_isGood 3 (some .boolean) 2 0 pre_X11_isGood po_X11_isGood := pm_sound (ini := false) (by decide +kernel) pk_X11_isGood (fun h => absurd h (by decide)) (by
  rintro as n s0 ⟨rfl, rfl, R0, hpre⟩
  refine ⟨by decide, Nat.le_of_ble_eq_true rfl, fun G hG => ?_⟩
  have hG : pm_Rules (RX11, 2, 122, cX11_isGood, -1, (fun _ => 0), false, (some .boolean), po_X11_isGood [.inr (.inr (40, 0))] 122 s0) G := hG
  show G 0 [some (.inr (.inr (40, 0))), none, none] [] 122 s0
  have B0 := pb_40_0 R0
  have B1 := pb_40_1 R0
  have B2 := pb_40_2 R0
  have B3 := pb_40_3 R0
  have J2 := hpre
  have JK := J2.1
  have JW := J2.2
  refine px_aload_n hG dX11_isGood_0 rfl ?_
  refine jv0 hG dX11_isGood_1 ct_X11_drive lk_X11_131 ⟨rfl, rfl⟩ (by decide) ⟨Nat.le_of_ble_eq_true rfl, Nat.le_of_ble_eq_true rfl, Nat.le_of_ble_eq_true rfl⟩ (Nat.le_of_ble_eq_true rfl) ⟨rfl, rfl, R0, J2⟩ (fun r1 t3 pr1 => ?_)
  obtain ⟨rfl, Rt3, Ft3, br1⟩ := pr1 rfl
  have Ff5 := pm_Fr_mono Ft3 (M := [(43, none), (44, none)]) rfl
  have jj6 := Ft3 40 0 0 rfl
  have jj7 := Ft3 40 0 1 rfl
  have jj8 := Ft3 40 0 2 rfl
  have jj9 := Ft3 40 0 3 rfl
  show G 4 [some (.inr (.inr (40, 0))), none, none] [] 122 t3
  have D := br1
  refine px_iconst hG dX11_isGood_4 ?_
  refine px_istore_n hG dX11_isGood_5 (Nat.le_of_ble_eq_true rfl) (L2 := [some (.inr (.inr (40, 0))), some (.inl 1), none]) rfl ?_
  refine px_iconst hG dX11_isGood_6 ?_
  refine px_istore_n hG dX11_isGood_7 (Nat.le_of_ble_eq_true rfl) (L2 := [some (.inr (.inr (40, 0))), some (.inl 1), some (.inl 1)]) rfl ?_
  have L8 : ∀ (N : Nat) (v1_10 : Int) (v2_11 : Int), ((1 ≤ v2_11 ∧ v2_11 ≤ 10000) ∧ ((v1_10 = 0 ∨ v1_10 = 1) ∧ (v1_10 = 1 → ∀ j : Int, 1 ≤ j → j < v2_11 → 1 ≤ t3 43 0 j))) → (10001 - v2_11).toNat < N → G 8 [some (.inr (.inr (40, 0))), some (.inl v1_10), some (.inl v2_11)] [] 122 t3 := by
    intro N
    induction N with
    | zero => intro v1_10 v2_11 inv13 hm14; exact absurd hm14 (Nat.not_lt_zero _)
    | succ N ih12 =>
      intro v1_10 v2_11 inv13 hm14
      have U1 := (inv13.2).1
      have U2 := (inv13.2).2
      refine px_iload_n hG dX11_isGood_8 rfl ?_
      refine px_aload_n hG dX11_isGood_9 rfl ?_
      refine gi_40_3 hG dX11_isGood_10 fl_X11_110 Rt3 (fun x15 ex15 lx15 ux15 => ?_)
      have ex15 : s0 40 0 3 = x15 := (Ff5 40 0 3 rfl).symm.trans ex15
      refine px_ic_gt hG dX11_isGood_13 (tgt := 41) (by decide) ⟨by omega, by omega⟩ ⟨by omega, by omega⟩ (fun c16 => ?_) (fun c16 => ?_)
      · refine px_iload_n hG dX11_isGood_41 rfl ?_
        have jj17 := Ff5 40 0 0 rfl
        have jj18 := Ff5 40 0 1 rfl
        have jj19 := Ff5 40 0 2 rfl
        have jj20 := Ff5 40 0 3 rfl
        have PX := fun (h : v1_10 = 1) (hp : pm_pl s0) => pm_PD_end (k := s0 40 0 3) D hp (fun j a b => U2 h j a (by omega)) (by omega)
        exact px_zret (st := []) hG dX11_isGood_42 rfl (by omega) rfl (fun _ => by exact ⟨_, rfl, Rt3, Ff5, ⟨by omega, PX⟩⟩)
      · refine px_iload_n hG dX11_isGood_16 rfl ?_
        refine px_if_eq hG dX11_isGood_17 (tgt := 33) (by decide) ⟨by omega, by omega⟩ (fun c21 => ?_) (fun c21 => ?_)
        · refine px_iconst hG dX11_isGood_33 ?_
          refine px_istore_n hG dX11_isGood_34 (Nat.le_of_ble_eq_true rfl) (L2 := [some (.inr (.inr (40, 0))), some (.inl 0), some (.inl v2_11)]) rfl ?_
          refine px_iinc hG dX11_isGood_35 (Nat.le_of_ble_eq_true rfl) rfl (L2 := [some (.inr (.inr (40, 0))), some (.inl 0), some (.inl (v2_11 + 1))]) rfl ?_
          refine px_goto hG dX11_isGood_38 (tgt := 8) (by decide) ?_
          exact ih12 0 (v2_11 + 1) (⟨by omega, ⟨by omega, fun h => by first | omega | exact pm_all1 (U2 (by omega)) (by omega)⟩⟩) (by omega)
        · refine px_aload_n hG dX11_isGood_20 rfl ?_
          refine gr_40_6 hG dX11_isGood_21 fl_X11_20 Rt3 ?_
          refine px_iload_n hG dX11_isGood_24 rfl ?_
          refine al_43 hG dX11_isGood_25 Rt3 (by omega) (fun x22 ex22 lx22 ux22 => ?_)
          have X1 := ex22
          refine px_if_le hG dX11_isGood_26 (tgt := 33) (by decide) ⟨by omega, by omega⟩ (fun c23 => ?_) (fun c23 => ?_)
          · refine px_iconst hG dX11_isGood_33 ?_
            refine px_istore_n hG dX11_isGood_34 (Nat.le_of_ble_eq_true rfl) (L2 := [some (.inr (.inr (40, 0))), some (.inl 0), some (.inl v2_11)]) rfl ?_
            refine px_iinc hG dX11_isGood_35 (Nat.le_of_ble_eq_true rfl) rfl (L2 := [some (.inr (.inr (40, 0))), some (.inl 0), some (.inl (v2_11 + 1))]) rfl ?_
            refine px_goto hG dX11_isGood_38 (tgt := 8) (by decide) ?_
            exact ih12 0 (v2_11 + 1) (⟨by omega, ⟨by omega, fun h => by first | omega | exact pm_all1 (U2 (by omega)) (by omega)⟩⟩) (by omega)
          · refine px_iconst hG dX11_isGood_29 ?_
            refine px_goto hG dX11_isGood_30 (tgt := 34) (by decide) ?_
            refine px_istore_n hG dX11_isGood_34 (Nat.le_of_ble_eq_true rfl) (L2 := [some (.inr (.inr (40, 0))), some (.inl 1), some (.inl v2_11)]) rfl ?_
            refine px_iinc hG dX11_isGood_35 (Nat.le_of_ble_eq_true rfl) rfl (L2 := [some (.inr (.inr (40, 0))), some (.inl 1), some (.inl (v2_11 + 1))]) rfl ?_
            refine px_goto hG dX11_isGood_38 (tgt := 8) (by decide) ?_
            exact ih12 1 (v2_11 + 1) (⟨by omega, ⟨by omega, fun h => by first | omega | exact pm_all1 (U2 (by omega)) (by omega)⟩⟩) (by omega)
  exact L8 _ 1 1 (⟨by omega, ⟨by omega, fun _ j h0 h1 => by omega⟩⟩) (Nat.lt_succ_self _))
def pre_X11_isPlain (as : List pm_V) (n : Nat) (σ : pm_H) : Prop := as = [.inr (.inr (40, 0))] ∧ n = 122 ∧ pm_Rng σ ∧ (pm_J2 σ)
def po_X11_isPlain (as : List pm_V) (_ : Nat) (σ : pm_H) (r : Option pm_V) (τ : pm_H) : Prop := as = [.inr (.inr (40, 0))] → ∃ v : Int, r = some (.inl v) ∧ σ = τ ∧ ((v = 0 ∨ v = 1) ∧ (v = 1 → pm_pl σ))
set_option maxRecDepth 20000 in
set_option maxHeartbeats 4000000 in
theorem ct_X11_isPlain : pm_Ct yX11_isPlain cX11_isPlain 3 (some .boolean) 0 0 pre_X11_isPlain po_X11_isPlain := pm_sound (ini := false) (by decide +kernel) pk_X11_isPlain (fun h => absurd h (by decide)) (by
  rintro as n s0 ⟨rfl, rfl, R0, hpre⟩
  refine ⟨by decide, Nat.le_of_ble_eq_true rfl, fun G hG => ?_⟩
  have hG : pm_Rules (RX11, 0, 122, cX11_isPlain, -1, (fun _ => 0), false, (some .boolean), po_X11_isPlain [.inr (.inr (40, 0))] 122 s0) G := hG
  show G 0 [some (.inr (.inr (40, 0))), none, none] [] 122 s0
  have B0 := pb_40_0 R0
  have B1 := pb_40_1 R0
  have B2 := pb_40_2 R0
  have B3 := pb_40_3 R0
  have J2 := hpre
  have JK := J2.1
  have JW := J2.2
  refine px_aload_n hG dX11_isPlain_0 rfl ?_
  refine gi_40_0 hG dX11_isPlain_1 fl_X11_104 R0 (fun x1 ex1 lx1 ux1 => ?_)
  have J12_4 : ∀ (j3 : Int), ((x1 ≠ 0 ∧ j3 = 0) ∨ (¬ (x1 ≠ 0) ∧ j3 = 1)) → G 12 [some (.inr (.inr (40, 0))), none, none] [.inl j3] 122 s0 := by
    intro j3 inv5
    refine px_istore_n hG dX11_isPlain_12 (Nat.le_of_ble_eq_true rfl) (L2 := [some (.inr (.inr (40, 0))), some (.inl j3), none]) rfl ?_
    refine px_iconst hG dX11_isPlain_13 ?_
    refine px_istore_n hG dX11_isPlain_14 (Nat.le_of_ble_eq_true rfl) (L2 := [some (.inr (.inr (40, 0))), some (.inl j3), some (.inl 1)]) rfl ?_
    have L15 : ∀ (N : Nat) (v1_6 : Int) (v2_7 : Int), ((1 ≤ v2_7 ∧ v2_7 ≤ 10000) ∧ ((v1_6 = 0 ∨ v1_6 = 1) ∧ (v1_6 = 1 → s0 40 0 0 = 0 ∧ ∀ j : Int, 1 ≤ j → j < v2_7 → s0 42 0 j = 1))) → (10001 - v2_7).toNat < N → G 15 [some (.inr (.inr (40, 0))), some (.inl v1_6), some (.inl v2_7)] [] 122 s0 := by
      intro N
      induction N with
      | zero => intro v1_6 v2_7 inv9 hm10; exact absurd hm10 (Nat.not_lt_zero _)
      | succ N ih8 =>
        intro v1_6 v2_7 inv9 hm10
        have U1 := (inv9.2).1
        have U2 := (inv9.2).2
        refine px_iload_n hG dX11_isPlain_15 rfl ?_
        refine px_aload_n hG dX11_isPlain_16 rfl ?_
        refine gi_40_3 hG dX11_isPlain_17 fl_X11_110 R0 (fun x11 ex11 lx11 ux11 => ?_)
        refine px_ic_gt hG dX11_isPlain_20 (tgt := 49) (by decide) ⟨by omega, by omega⟩ ⟨by omega, by omega⟩ (fun c12 => ?_) (fun c12 => ?_)
        · refine px_iload_n hG dX11_isPlain_49 rfl ?_
          exact px_zret (st := []) hG dX11_isPlain_50 rfl (by omega) rfl (fun _ => by exact ⟨_, rfl, rfl, ⟨by omega, fun h => ⟨(U2 h).1, fun j h0 h1 => (U2 h).2 j h0 (by omega)⟩⟩⟩)
        · refine px_iload_n hG dX11_isPlain_23 rfl ?_
          refine px_if_eq hG dX11_isPlain_24 (tgt := 41) (by decide) ⟨by omega, by omega⟩ (fun c13 => ?_) (fun c13 => ?_)
          · refine px_iconst hG dX11_isPlain_41 ?_
            refine px_istore_n hG dX11_isPlain_42 (Nat.le_of_ble_eq_true rfl) (L2 := [some (.inr (.inr (40, 0))), some (.inl 0), some (.inl v2_7)]) rfl ?_
            refine px_iinc hG dX11_isPlain_43 (Nat.le_of_ble_eq_true rfl) rfl (L2 := [some (.inr (.inr (40, 0))), some (.inl 0), some (.inl (v2_7 + 1))]) rfl ?_
            refine px_goto hG dX11_isPlain_46 (tgt := 15) (by decide) ?_
            exact ih8 0 (v2_7 + 1) (⟨by omega, ⟨by omega, fun h => by first | omega | exact ⟨(U2 (by omega)).1, pm_all1 (U2 (by omega)).2 (by omega)⟩⟩⟩) (by omega)
          · refine px_aload_n hG dX11_isPlain_27 rfl ?_
            refine gr_40_5 hG dX11_isPlain_28 fl_X11_17 R0 ?_
            refine px_iload_n hG dX11_isPlain_31 rfl ?_
            refine al_42 hG dX11_isPlain_32 R0 (by omega) (fun x14 ex14 lx14 ux14 => ?_)
            have X1 := ex14
            refine px_iconst hG dX11_isPlain_33 ?_
            refine px_ic_ne hG dX11_isPlain_34 (tgt := 41) (by decide) ⟨by omega, by omega⟩ ⟨by omega, by omega⟩ (fun c15 => ?_) (fun c15 => ?_)
            · refine px_iconst hG dX11_isPlain_41 ?_
              refine px_istore_n hG dX11_isPlain_42 (Nat.le_of_ble_eq_true rfl) (L2 := [some (.inr (.inr (40, 0))), some (.inl 0), some (.inl v2_7)]) rfl ?_
              refine px_iinc hG dX11_isPlain_43 (Nat.le_of_ble_eq_true rfl) rfl (L2 := [some (.inr (.inr (40, 0))), some (.inl 0), some (.inl (v2_7 + 1))]) rfl ?_
              refine px_goto hG dX11_isPlain_46 (tgt := 15) (by decide) ?_
              exact ih8 0 (v2_7 + 1) (⟨by omega, ⟨by omega, fun h => by first | omega | exact ⟨(U2 (by omega)).1, pm_all1 (U2 (by omega)).2 (by omega)⟩⟩⟩) (by omega)
            · refine px_iconst hG dX11_isPlain_37 ?_
              refine px_goto hG dX11_isPlain_38 (tgt := 42) (by decide) ?_
              refine px_istore_n hG dX11_isPlain_42 (Nat.le_of_ble_eq_true rfl) (L2 := [some (.inr (.inr (40, 0))), some (.inl 1), some (.inl v2_7)]) rfl ?_
              refine px_iinc hG dX11_isPlain_43 (Nat.le_of_ble_eq_true rfl) rfl (L2 := [some (.inr (.inr (40, 0))), some (.inl 1), some (.inl (v2_7 + 1))]) rfl ?_
              refine px_goto hG dX11_isPlain_46 (tgt := 15) (by decide) ?_
              exact ih8 1 (v2_7 + 1) (⟨by omega, ⟨by omega, fun h => by first | omega | exact ⟨(U2 (by omega)).1, pm_all1 (U2 (by omega)).2 (by omega)⟩⟩⟩) (by omega)
    exact L15 _ j3 1 (⟨by omega, ⟨by omega, fun h => ⟨by omega, fun j h0 h1 => by omega⟩⟩⟩) (Nat.lt_succ_self _)
  refine px_if_ne hG dX11_isPlain_4 (tgt := 11) (by decide) ⟨by omega, by omega⟩ (fun c2 => ?_) (fun c2 => ?_)
  · refine px_iconst hG dX11_isPlain_11 ?_
    exact J12_4 0 (by omega)
  · refine px_iconst hG dX11_isPlain_7 ?_
    refine px_goto hG dX11_isPlain_8 (tgt := 12) (by decide) ?_
    exact J12_4 1 (by omega))
def pre_X11_told (as : List pm_V) (n : Nat) (σ : pm_H) : Prop := ∃ aa ab : Int, as = [.inr (.inr (40, 0)), .inl aa, .inl ab] ∧ n = 122 ∧ pm_Rng σ ∧ ((pm_in aa ∧ pm_in ab) ∧ pm_J2 σ)
def po_X11_told (as : List pm_V) (_ : Nat) (σ : pm_H) (r : Option pm_V) (τ : pm_H) : Prop := ∀ aa ab : Int, as = [.inr (.inr (40, 0)), .inl aa, .inl ab] → ∃ v : Int, r = some (.inl v) ∧ pm_Rng τ ∧ pm_Fr [(43, none), (44, none)] σ τ
set_option maxRecDepth 20000 in
set_option maxHeartbeats 4000000 in
theorem ct_X11_told : pm_Ct yX11_told cX11_told 3 (some .int) 2 0 pre_X11_told po_X11_told := pm_sound (ini := false) (by decide +kernel) pk_X11_told (fun h => absurd h (by decide)) (by
  rintro as n s0 ⟨aa, ab, rfl, rfl, R0, hpre⟩
  refine ⟨by decide, Nat.le_of_ble_eq_true rfl, fun G hG => ?_⟩
  have hG : pm_Rules (RX11, 2, 122, cX11_told, -1, (fun _ => 0), false, (some .int), po_X11_told [.inr (.inr (40, 0)), .inl aa, .inl ab] 122 s0) G := hG
  show G 0 [some (.inr (.inr (40, 0))), some (.inl aa), some (.inl ab)] [] 122 s0
  have B0 := pb_40_0 R0
  have B1 := pb_40_1 R0
  have B2 := pb_40_2 R0
  have B3 := pb_40_3 R0
  have J2 := hpre.2
  have HP := hpre.1
  have JK := J2.1
  have JW := J2.2
  refine px_aload_n hG dX11_told_0 rfl ?_
  refine px_iload_n hG dX11_told_1 rfl ?_
  refine jv1 hG dX11_told_2 ct_X11_isCar lk_X11_117 ⟨rfl, rfl⟩ (by decide) ⟨Nat.le_of_ble_eq_true rfl, Nat.le_of_ble_eq_true rfl, Nat.le_of_ble_eq_true rfl⟩ (Nat.le_of_ble_eq_true rfl) ⟨aa, rfl, rfl, R0, ⟨by omega, J2⟩⟩ (fun r1 t2 pr1 => ?_)
  obtain ⟨x3, rfl, rfl, br1⟩ := pr1 _ rfl
  show G 5 [some (.inr (.inr (40, 0))), some (.inl aa), some (.inl ab)] [.inl x3] 122 s0
  refine px_if_ne hG dX11_told_5 (tgt := 10) (by decide) ⟨by omega, by omega⟩ (fun c4 => ?_) (fun c4 => ?_)
  · refine px_aload_n hG dX11_told_10 rfl ?_
    refine jv0 hG dX11_told_11 ct_X11_drive lk_X11_131 ⟨rfl, rfl⟩ (by decide) ⟨Nat.le_of_ble_eq_true rfl, Nat.le_of_ble_eq_true rfl, Nat.le_of_ble_eq_true rfl⟩ (Nat.le_of_ble_eq_true rfl) ⟨rfl, rfl, R0, J2⟩ (fun r5 t7 pr5 => ?_)
    obtain ⟨rfl, Rt7, Ft7, br5⟩ := pr5 rfl
    have Ff9 := pm_Fr_mono Ft7 (M := [(43, none), (44, none)]) rfl
    have jj10 := Ft7 40 0 0 rfl
    have jj11 := Ft7 40 0 1 rfl
    have jj12 := Ft7 40 0 2 rfl
    have jj13 := Ft7 40 0 3 rfl
    show G 14 [some (.inr (.inr (40, 0))), some (.inl aa), some (.inl ab)] [] 122 t7
    refine px_iload_n hG dX11_told_14 rfl ?_
    refine px_tsw hG dX11_told_15 ⟨by omega, by omega⟩ (by decide) (And.intro (by decide) (And.intro (fun c15_0 => ?_) (And.intro (by decide) (And.intro (fun c15_1 => ?_) (And.intro (by decide) (And.intro (fun c15_2 => ?_) (And.intro (by decide) (And.intro (fun c15_3 => ?_) (And.intro (by decide) (And.intro (fun c15_4 => ?_) (trivial))))))))))) (fun c15_d => ?_) (by decide)
    · show G 48 [some (.inr (.inr (40, 0))), some (.inl aa), some (.inl ab)] [] 122 t7
      refine px_aload_n hG dX11_told_48 rfl ?_
      refine gr_40_4 hG dX11_told_49 fl_X11_13 Rt7 ?_
      refine px_iload_n hG dX11_told_52 rfl ?_
      refine al_41 hG dX11_told_53 Rt7 (by omega) (fun x14 ex14 lx14 ux14 => ?_)
      have jj15 := Ff9 40 0 0 rfl
      have jj16 := Ff9 40 0 1 rfl
      have jj17 := Ff9 40 0 2 rfl
      have jj18 := Ff9 40 0 3 rfl
      exact px_iret (st := []) hG dX11_told_54 rfl rfl (fun aa_1 ab_1 ee => by cases ee; exact ⟨_, rfl, Rt7, Ff9⟩)
    · show G 55 [some (.inr (.inr (40, 0))), some (.inl aa), some (.inl ab)] [] 122 t7
      refine px_aload_n hG dX11_told_55 rfl ?_
      refine gr_40_5 hG dX11_told_56 fl_X11_17 Rt7 ?_
      refine px_iload_n hG dX11_told_59 rfl ?_
      refine al_42 hG dX11_told_60 Rt7 (by omega) (fun x19 ex19 lx19 ux19 => ?_)
      have jj20 := Ff9 40 0 0 rfl
      have jj21 := Ff9 40 0 1 rfl
      have jj22 := Ff9 40 0 2 rfl
      have jj23 := Ff9 40 0 3 rfl
      exact px_iret (st := []) hG dX11_told_61 rfl rfl (fun aa_1 ab_1 ee => by cases ee; exact ⟨_, rfl, Rt7, Ff9⟩)
    · show G 62 [some (.inr (.inr (40, 0))), some (.inl aa), some (.inl ab)] [] 122 t7
      refine px_aload_n hG dX11_told_62 rfl ?_
      refine gr_40_6 hG dX11_told_63 fl_X11_20 Rt7 ?_
      refine px_iload_n hG dX11_told_66 rfl ?_
      refine al_43 hG dX11_told_67 Rt7 (by omega) (fun x24 ex24 lx24 ux24 => ?_)
      refine px_if_ne hG dX11_told_68 (tgt := 76) (by decide) ⟨by omega, by omega⟩ (fun c25 => ?_) (fun c25 => ?_)
      · refine px_aload_n hG dX11_told_76 rfl ?_
        refine gr_40_6 hG dX11_told_77 fl_X11_20 Rt7 ?_
        refine px_iload_n hG dX11_told_80 rfl ?_
        refine al_43 hG dX11_told_81 Rt7 (by omega) (fun x26 ex26 lx26 ux26 => ?_)
        have jj27 := Ff9 40 0 0 rfl
        have jj28 := Ff9 40 0 1 rfl
        have jj29 := Ff9 40 0 2 rfl
        have jj30 := Ff9 40 0 3 rfl
        exact px_iret (st := []) hG dX11_told_82 rfl rfl (fun aa_1 ab_1 ee => by cases ee; exact ⟨_, rfl, Rt7, Ff9⟩)
      · refine px_bipush hG dX11_told_71 (by decide) ?_
        refine px_goto hG dX11_told_73 (tgt := 82) (by decide) ?_
        have jj31 := Ff9 40 0 0 rfl
        have jj32 := Ff9 40 0 1 rfl
        have jj33 := Ff9 40 0 2 rfl
        have jj34 := Ff9 40 0 3 rfl
        exact px_iret (st := []) hG dX11_told_82 rfl rfl (fun aa_1 ab_1 ee => by cases ee; exact ⟨_, rfl, Rt7, Ff9⟩)
    · show G 83 [some (.inr (.inr (40, 0))), some (.inl aa), some (.inl ab)] [] 122 t7
      refine px_aload_n hG dX11_told_83 rfl ?_
      refine gr_40_6 hG dX11_told_84 fl_X11_20 Rt7 ?_
      refine px_iload_n hG dX11_told_87 rfl ?_
      refine al_43 hG dX11_told_88 Rt7 (by omega) (fun x35 ex35 lx35 ux35 => ?_)
      refine px_if_ne hG dX11_told_89 (tgt := 97) (by decide) ⟨by omega, by omega⟩ (fun c36 => ?_) (fun c36 => ?_)
      · refine px_aload_n hG dX11_told_97 rfl ?_
        refine px_iload_n hG dX11_told_98 rfl ?_
        refine jv1 hG dX11_told_99 ct_X11_goes lk_X11_134 ⟨rfl, rfl⟩ (by decide) ⟨Nat.le_of_ble_eq_true rfl, Nat.le_of_ble_eq_true rfl, Nat.le_of_ble_eq_true rfl⟩ (Nat.le_of_ble_eq_true rfl) ⟨aa, rfl, rfl, Rt7, ⟨by omega, (pm_J2_fr Ff9 rfl J2)⟩⟩ (fun r37 t38 pr37 => ?_)
        obtain ⟨x39, rfl, rfl, br37⟩ := pr37 _ rfl
        show G 102 [some (.inr (.inr (40, 0))), some (.inl aa), some (.inl ab)] [.inl x39] 122 t7
        have jj40 := Ff9 40 0 0 rfl
        have jj41 := Ff9 40 0 1 rfl
        have jj42 := Ff9 40 0 2 rfl
        have jj43 := Ff9 40 0 3 rfl
        exact px_iret (st := []) hG dX11_told_102 rfl rfl (fun aa_1 ab_1 ee => by cases ee; exact ⟨_, rfl, Rt7, Ff9⟩)
      · refine px_bipush hG dX11_told_92 (by decide) ?_
        refine px_goto hG dX11_told_94 (tgt := 102) (by decide) ?_
        have jj44 := Ff9 40 0 0 rfl
        have jj45 := Ff9 40 0 1 rfl
        have jj46 := Ff9 40 0 2 rfl
        have jj47 := Ff9 40 0 3 rfl
        exact px_iret (st := []) hG dX11_told_102 rfl rfl (fun aa_1 ab_1 ee => by cases ee; exact ⟨_, rfl, Rt7, Ff9⟩)
    · show G 103 [some (.inr (.inr (40, 0))), some (.inl aa), some (.inl ab)] [] 122 t7
      refine px_aload_n hG dX11_told_103 rfl ?_
      refine gr_40_6 hG dX11_told_104 fl_X11_20 Rt7 ?_
      refine px_iload_n hG dX11_told_107 rfl ?_
      refine al_43 hG dX11_told_108 Rt7 (by omega) (fun x48 ex48 lx48 ux48 => ?_)
      refine px_aload_n hG dX11_told_109 rfl ?_
      refine gr_40_4 hG dX11_told_110 fl_X11_13 Rt7 ?_
      refine px_iload_n hG dX11_told_113 rfl ?_
      refine al_41 hG dX11_told_114 Rt7 (by omega) (fun x49 ex49 lx49 ux49 => ?_)
      refine px_ic_ne hG dX11_told_115 (tgt := 122) (by decide) ⟨by omega, by omega⟩ ⟨by omega, by omega⟩ (fun c50 => ?_) (fun c50 => ?_)
      · refine px_iconst hG dX11_told_122 ?_
        have jj51 := Ff9 40 0 0 rfl
        have jj52 := Ff9 40 0 1 rfl
        have jj53 := Ff9 40 0 2 rfl
        have jj54 := Ff9 40 0 3 rfl
        exact px_iret (st := []) hG dX11_told_123 rfl rfl (fun aa_1 ab_1 ee => by cases ee; exact ⟨_, rfl, Rt7, Ff9⟩)
      · refine px_iconst hG dX11_told_118 ?_
        refine px_goto hG dX11_told_119 (tgt := 123) (by decide) ?_
        have jj55 := Ff9 40 0 0 rfl
        have jj56 := Ff9 40 0 1 rfl
        have jj57 := Ff9 40 0 2 rfl
        have jj58 := Ff9 40 0 3 rfl
        exact px_iret (st := []) hG dX11_told_123 rfl rfl (fun aa_1 ab_1 ee => by cases ee; exact ⟨_, rfl, Rt7, Ff9⟩)
    · show G 124 [some (.inr (.inr (40, 0))), some (.inl aa), some (.inl ab)] [] 122 t7
      refine px_iconst hG dX11_told_124 ?_
      have jj59 := Ff9 40 0 0 rfl
      have jj60 := Ff9 40 0 1 rfl
      have jj61 := Ff9 40 0 2 rfl
      have jj62 := Ff9 40 0 3 rfl
      exact px_iret (st := []) hG dX11_told_125 rfl rfl (fun aa_1 ab_1 ee => by cases ee; exact ⟨_, rfl, Rt7, Ff9⟩)
  · refine px_iconst hG dX11_told_8 ?_
    exact px_iret (st := []) hG dX11_told_9 rfl rfl (fun aa_1 ab_1 ee => by cases ee; exact ⟨_, rfl, R0, pm_Fr_rf⟩))
def pre_X11_on (as : List pm_V) (n : Nat) (σ : pm_H) : Prop := ∃ aa : Int, as = [.inr (.inr (40, 0)), .inl aa] ∧ n = 122 ∧ pm_Rng σ ∧ ((pm_in aa) ∧ pm_J2 σ)
def po_X11_on (as : List pm_V) (_ : Nat) (σ : pm_H) (r : Option pm_V) (τ : pm_H) : Prop := ∀ aa : Int, as = [.inr (.inr (40, 0)), .inl aa] → ∃ v : Int, r = some (.inl v) ∧ pm_Rng τ ∧ pm_Fr [(43, none), (44, none)] σ τ
set_option maxRecDepth 20000 in
set_option maxHeartbeats 4000000 in
theorem ct_X11_on : pm_Ct yX11_on cX11_on 2 (some .int) 2 0 pre_X11_on po_X11_on := pm_sound (ini := false) (by decide +kernel) pk_X11_on (fun h => absurd h (by decide)) (by
  rintro as n s0 ⟨aa, rfl, rfl, R0, hpre⟩
  refine ⟨by decide, Nat.le_of_ble_eq_true rfl, fun G hG => ?_⟩
  have hG : pm_Rules (RX11, 2, 122, cX11_on, -1, (fun _ => 0), false, (some .int), po_X11_on [.inr (.inr (40, 0)), .inl aa] 122 s0) G := hG
  show G 0 [some (.inr (.inr (40, 0))), some (.inl aa)] [] 122 s0
  have B0 := pb_40_0 R0
  have B1 := pb_40_1 R0
  have B2 := pb_40_2 R0
  have B3 := pb_40_3 R0
  have J2 := hpre.2
  have HP := hpre.1
  have JK := J2.1
  have JW := J2.2
  refine px_iload_n hG dX11_on_0 rfl ?_
  refine px_i2l hG dX11_on_1 ⟨by omega, by omega⟩ ?_
  refine px_lconst hG dX11_on_2 ?_
  show G 3 [some (.inr (.inr (40, 0))), some (.inl aa)] [.inr (.inl 1), .inr (.inl aa)] 122 s0
  refine px_aload_n hG dX11_on_3 rfl ?_
  refine gi_40_1 hG dX11_on_4 fl_X11_7 R0 (fun x1 ex1 lx1 ux1 => ?_)
  refine px_i2l hG dX11_on_7 ⟨by omega, by omega⟩ ?_
  refine js3 hG dX11_on_8 ct_X11_in lk_X11_96 ⟨Nat.le_of_ble_eq_true rfl, Nat.le_of_ble_eq_true rfl, Nat.le_of_ble_eq_true rfl⟩ (Nat.le_of_ble_eq_true rfl) ⟨aa, 1, x1, rfl, rfl, R0, by omega⟩ (fun r2 t3 pr2 => ?_)
  obtain ⟨x4, rfl, rfl, br2⟩ := pr2 _ _ _ rfl
  show G 11 [some (.inr (.inr (40, 0))), some (.inl aa)] [.inl x4] 122 s0
  refine px_if_ne hG dX11_on_11 (tgt := 16) (by decide) ⟨by omega, by omega⟩ (fun c5 => ?_) (fun c5 => ?_)
  · refine px_aload_n hG dX11_on_16 rfl ?_
    refine jv0 hG dX11_on_17 ct_X11_drive lk_X11_131 ⟨rfl, rfl⟩ (by decide) ⟨Nat.le_of_ble_eq_true rfl, Nat.le_of_ble_eq_true rfl, Nat.le_of_ble_eq_true rfl⟩ (Nat.le_of_ble_eq_true rfl) ⟨rfl, rfl, R0, J2⟩ (fun r6 t8 pr6 => ?_)
    obtain ⟨rfl, Rt8, Ft8, br6⟩ := pr6 rfl
    have Ff10 := pm_Fr_mono Ft8 (M := [(43, none), (44, none)]) rfl
    have jj11 := Ft8 40 0 0 rfl
    have jj12 := Ft8 40 0 1 rfl
    have jj13 := Ft8 40 0 2 rfl
    have jj14 := Ft8 40 0 3 rfl
    have k15 : t8 40 0 1 = x1 := (Ft8 40 0 1 rfl).trans ex1
    show G 20 [some (.inr (.inr (40, 0))), some (.inl aa)] [] 122 t8
    refine px_aload_n hG dX11_on_20 rfl ?_
    refine gr_40_7 hG dX11_on_21 fl_X11_23 Rt8 ?_
    refine px_iload_n hG dX11_on_24 rfl ?_
    refine al_44 hG dX11_on_25 Rt8 (by omega) (fun x16 ex16 lx16 ux16 => ?_)
    refine px_if_ne hG dX11_on_26 (tgt := 34) (by decide) ⟨by omega, by omega⟩ (fun c17 => ?_) (fun c17 => ?_)
    · refine px_aload_n hG dX11_on_34 rfl ?_
      refine gr_40_7 hG dX11_on_35 fl_X11_23 Rt8 ?_
      refine px_iload_n hG dX11_on_38 rfl ?_
      refine al_44 hG dX11_on_39 Rt8 (by omega) (fun x18 ex18 lx18 ux18 => ?_)
      have jj19 := Ff10 40 0 0 rfl
      have jj20 := Ff10 40 0 1 rfl
      have jj21 := Ff10 40 0 2 rfl
      have jj22 := Ff10 40 0 3 rfl
      exact px_iret (st := []) hG dX11_on_40 rfl rfl (fun aa_1 ee => by cases ee; exact ⟨_, rfl, Rt8, Ff10⟩)
    · refine px_bipush hG dX11_on_29 (by decide) ?_
      refine px_goto hG dX11_on_31 (tgt := 40) (by decide) ?_
      have jj23 := Ff10 40 0 0 rfl
      have jj24 := Ff10 40 0 1 rfl
      have jj25 := Ff10 40 0 2 rfl
      have jj26 := Ff10 40 0 3 rfl
      exact px_iret (st := []) hG dX11_on_40 rfl rfl (fun aa_1 ee => by cases ee; exact ⟨_, rfl, Rt8, Ff10⟩)
  · refine px_iconst hG dX11_on_14 ?_
    exact px_iret (st := []) hG dX11_on_15 rfl rfl (fun aa_1 ee => by cases ee; exact ⟨_, rfl, R0, pm_Fr_rf⟩))
def pre_X11_count (as : List pm_V) (n : Nat) (σ : pm_H) : Prop := ∃ aa : Int, as = [.inr (.inr (40, 0)), .inl aa] ∧ n = 122 ∧ pm_Rng σ ∧ ((pm_in aa) ∧ pm_J2 σ)
def po_X11_count (as : List pm_V) (_ : Nat) (σ : pm_H) (r : Option pm_V) (τ : pm_H) : Prop := ∀ aa : Int, as = [.inr (.inr (40, 0)), .inl aa] → ∃ v : Int, r = some (.inl v) ∧ pm_Rng τ ∧ pm_Fr [(43, none), (44, none)] σ τ
set_option maxRecDepth 20000 in
set_option maxHeartbeats 4000000 in
theorem ct_X11_count : pm_Ct yX11_count cX11_count 9 (some .int) 2 0 pre_X11_count po_X11_count := pm_sound (ini := false) (by decide +kernel) pk_X11_count (fun h => absurd h (by decide)) (by
  rintro as n s0 ⟨aa, rfl, rfl, R0, hpre⟩
  refine ⟨by decide, Nat.le_of_ble_eq_true rfl, fun G hG => ?_⟩
  have hG : pm_Rules (RX11, 2, 122, cX11_count, -1, (fun _ => 0), false, (some .int), po_X11_count [.inr (.inr (40, 0)), .inl aa] 122 s0) G := hG
  show G 0 [some (.inr (.inr (40, 0))), some (.inl aa), none, none, none, none, none, none, none] [] 122 s0
  have B0 := pb_40_0 R0
  have B1 := pb_40_1 R0
  have B2 := pb_40_2 R0
  have B3 := pb_40_3 R0
  have J2 := hpre.2
  have HP := hpre.1
  have JK := J2.1
  have JW := J2.2
  refine px_iload_n hG dX11_count_0 rfl ?_
  refine px_i2l hG dX11_count_1 ⟨by omega, by omega⟩ ?_
  refine px_lconst hG dX11_count_2 ?_
  show G 3 [some (.inr (.inr (40, 0))), some (.inl aa), none, none, none, none, none, none, none] [.inr (.inl 0), .inr (.inl aa)] 122 s0
  refine px_ldc2 hG dX11_count_3 cn_X11_137 ?_
  show G 6 [some (.inr (.inr (40, 0))), some (.inl aa), none, none, none, none, none, none, none] [.inr (.inl 7), .inr (.inl 0), .inr (.inl aa)] 122 s0
  refine js3 hG dX11_count_6 ct_X11_in lk_X11_96 ⟨Nat.le_of_ble_eq_true rfl, Nat.le_of_ble_eq_true rfl, Nat.le_of_ble_eq_true rfl⟩ (Nat.le_of_ble_eq_true rfl) ⟨aa, 0, 7, rfl, rfl, R0, by omega⟩ (fun r1 t2 pr1 => ?_)
  obtain ⟨x3, rfl, rfl, br1⟩ := pr1 _ _ _ rfl
  show G 9 [some (.inr (.inr (40, 0))), some (.inl aa), none, none, none, none, none, none, none] [.inl x3] 122 s0
  refine px_if_ne hG dX11_count_9 (tgt := 14) (by decide) ⟨by omega, by omega⟩ (fun c4 => ?_) (fun c4 => ?_)
  · refine px_aload_n hG dX11_count_14 rfl ?_
    refine jv0 hG dX11_count_15 ct_X11_drive lk_X11_131 ⟨rfl, rfl⟩ (by decide) ⟨Nat.le_of_ble_eq_true rfl, Nat.le_of_ble_eq_true rfl, Nat.le_of_ble_eq_true rfl⟩ (Nat.le_of_ble_eq_true rfl) ⟨rfl, rfl, R0, J2⟩ (fun r5 t7 pr5 => ?_)
    obtain ⟨rfl, Rt7, Ft7, br5⟩ := pr5 rfl
    have Ff9 := pm_Fr_mono Ft7 (M := [(43, none), (44, none)]) rfl
    have jj10 := Ft7 40 0 0 rfl
    have jj11 := Ft7 40 0 1 rfl
    have jj12 := Ft7 40 0 2 rfl
    have jj13 := Ft7 40 0 3 rfl
    show G 18 [some (.inr (.inr (40, 0))), some (.inl aa), none, none, none, none, none, none, none] [] 122 t7
    refine px_iconst hG dX11_count_18 ?_
    refine px_istore_n hG dX11_count_19 (Nat.le_of_ble_eq_true rfl) (L2 := [some (.inr (.inr (40, 0))), some (.inl aa), some (.inl 0), none, none, none, none, none, none]) rfl ?_
    refine px_iconst hG dX11_count_20 ?_
    refine px_istore_n hG dX11_count_21 (Nat.le_of_ble_eq_true rfl) (L2 := [some (.inr (.inr (40, 0))), some (.inl aa), some (.inl 0), some (.inl 0), none, none, none, none, none]) rfl ?_
    refine px_iconst hG dX11_count_22 ?_
    refine px_istore hG dX11_count_23 (Nat.le_of_ble_eq_true rfl) (L2 := [some (.inr (.inr (40, 0))), some (.inl aa), some (.inl 0), some (.inl 0), some (.inl 0), none, none, none, none]) rfl ?_
    refine px_iconst hG dX11_count_25 ?_
    refine px_istore hG dX11_count_26 (Nat.le_of_ble_eq_true rfl) (L2 := [some (.inr (.inr (40, 0))), some (.inl aa), some (.inl 0), some (.inl 0), some (.inl 0), some (.inl 0), none, none, none]) rfl ?_
    refine px_iconst hG dX11_count_28 ?_
    refine px_istore hG dX11_count_29 (Nat.le_of_ble_eq_true rfl) (L2 := [some (.inr (.inr (40, 0))), some (.inl aa), some (.inl 0), some (.inl 0), some (.inl 0), some (.inl 0), some (.inl 0), none, none]) rfl ?_
    refine px_iconst hG dX11_count_31 ?_
    refine px_istore hG dX11_count_32 (Nat.le_of_ble_eq_true rfl) (L2 := [some (.inr (.inr (40, 0))), some (.inl aa), some (.inl 0), some (.inl 0), some (.inl 0), some (.inl 0), some (.inl 0), some (.inl 1), none]) rfl ?_
    have L34 : ∀ (N : Nat) (v2_14 : Int) (v3_15 : Int) (v4_16 : Int) (v5_17 : Int) (v7_18 : Int), ((1 ≤ v7_18 ∧ v7_18 ≤ 10000) ∧ (-20 ≤ v5_17 ∧ v5_17 ≤ 20)) → (10001 - v7_18).toNat < N → G 34 [some (.inr (.inr (40, 0))), some (.inl aa), some (.inl v2_14), some (.inl v3_15), some (.inl v4_16), some (.inl v5_17), some (.inl 0), some (.inl v7_18), none] [] 122 t7 := by
      intro N
      induction N with
      | zero => intro v2_14 v3_15 v4_16 v5_17 v7_18 inv20 hm21; exact absurd hm21 (Nat.not_lt_zero _)
      | succ N ih19 =>
        intro v2_14 v3_15 v4_16 v5_17 v7_18 inv20 hm21
        refine px_iload hG dX11_count_34 rfl ?_
        refine px_aload_n hG dX11_count_36 rfl ?_
        refine gi_40_3 hG dX11_count_37 fl_X11_110 Rt7 (fun x22 ex22 lx22 ux22 => ?_)
        have ex22 : s0 40 0 3 = x22 := (Ff9 40 0 3 rfl).symm.trans ex22
        have J137_24 : ((v7_18 > x22)) → G 137 [some (.inr (.inr (40, 0))), some (.inl aa), some (.inl v2_14), some (.inl v3_15), some (.inl v4_16), some (.inl v5_17), some (.inl 0), none, none] [] 122 t7 := by
          intro inv25
          refine px_iconst hG dX11_count_137 ?_
          refine px_istore hG dX11_count_138 (Nat.le_of_ble_eq_true rfl) (L2 := [some (.inr (.inr (40, 0))), some (.inl aa), some (.inl v2_14), some (.inl v3_15), some (.inl v4_16), some (.inl v5_17), some (.inl 0), some (.inl 1), none]) rfl ?_
          have L140 : ∀ (N : Nat) (v6_26 : Int) (v7_27 : Int), ((1 ≤ v7_27 ∧ v7_27 ≤ 10000)) → (10001 - v7_27).toNat < N → G 140 [some (.inr (.inr (40, 0))), some (.inl aa), some (.inl v2_14), some (.inl v3_15), some (.inl v4_16), some (.inl v5_17), some (.inl v6_26), some (.inl v7_27), none] [] 122 t7 := by
            intro N
            induction N with
            | zero => intro v6_26 v7_27 inv29 hm30; exact absurd hm30 (Nat.not_lt_zero _)
            | succ N ih28 =>
              intro v6_26 v7_27 inv29 hm30
              refine px_iload hG dX11_count_140 rfl ?_
              refine px_aload_n hG dX11_count_142 rfl ?_
              refine gi_40_1 hG dX11_count_143 fl_X11_7 Rt7 (fun x31 ex31 lx31 ux31 => ?_)
              have ex31 : s0 40 0 1 = x31 := (Ff9 40 0 1 rfl).symm.trans ex31
              have J175_33 : ((v7_27 > x31)) → G 175 [some (.inr (.inr (40, 0))), some (.inl aa), some (.inl v2_14), some (.inl v3_15), some (.inl v4_16), some (.inl v5_17), some (.inl v6_26), none, none] [] 122 t7 := by
                intro inv34
                refine px_iload_n hG dX11_count_175 rfl ?_
                refine px_tsw hG dX11_count_176 ⟨by omega, by omega⟩ (by decide) (And.intro (by decide) (And.intro (fun c176_0 => ?_) (And.intro (by decide) (And.intro (fun c176_1 => ?_) (And.intro (by decide) (And.intro (fun c176_2 => ?_) (And.intro (by decide) (And.intro (fun c176_3 => ?_) (And.intro (by decide) (And.intro (fun c176_4 => ?_) (And.intro (by decide) (And.intro (fun c176_5 => ?_) (And.intro (by decide) (And.intro (fun c176_6 => ?_) (trivial))))))))))))))) (fun c176_d => ?_) (by decide)
                · show G 220 [some (.inr (.inr (40, 0))), some (.inl aa), some (.inl v2_14), some (.inl v3_15), some (.inl v4_16), some (.inl v5_17), some (.inl v6_26), none, none] [] 122 t7
                  refine px_aload_n hG dX11_count_220 rfl ?_
                  refine gi_40_1 hG dX11_count_221 fl_X11_7 Rt7 (fun x35 ex35 lx35 ux35 => ?_)
                  have ex35 : s0 40 0 1 = x35 := (Ff9 40 0 1 rfl).symm.trans ex35
                  have jj36 := Ff9 40 0 0 rfl
                  have jj37 := Ff9 40 0 1 rfl
                  have jj38 := Ff9 40 0 2 rfl
                  have jj39 := Ff9 40 0 3 rfl
                  exact px_iret (st := []) hG dX11_count_224 rfl rfl (fun aa_1 ee => by cases ee; exact ⟨_, rfl, Rt7, Ff9⟩)
                · show G 225 [some (.inr (.inr (40, 0))), some (.inl aa), some (.inl v2_14), some (.inl v3_15), some (.inl v4_16), some (.inl v5_17), some (.inl v6_26), none, none] [] 122 t7
                  refine px_aload_n hG dX11_count_225 rfl ?_
                  refine gi_40_3 hG dX11_count_226 fl_X11_110 Rt7 (fun x40 ex40 lx40 ux40 => ?_)
                  have ex40 : s0 40 0 3 = x40 := (Ff9 40 0 3 rfl).symm.trans ex40
                  have jj41 := Ff9 40 0 0 rfl
                  have jj42 := Ff9 40 0 1 rfl
                  have jj43 := Ff9 40 0 2 rfl
                  have jj44 := Ff9 40 0 3 rfl
                  exact px_iret (st := []) hG dX11_count_229 rfl rfl (fun aa_1 ee => by cases ee; exact ⟨_, rfl, Rt7, Ff9⟩)
                · show G 230 [some (.inr (.inr (40, 0))), some (.inl aa), some (.inl v2_14), some (.inl v3_15), some (.inl v4_16), some (.inl v5_17), some (.inl v6_26), none, none] [] 122 t7
                  refine px_iload_n hG dX11_count_230 rfl ?_
                  have jj45 := Ff9 40 0 0 rfl
                  have jj46 := Ff9 40 0 1 rfl
                  have jj47 := Ff9 40 0 2 rfl
                  have jj48 := Ff9 40 0 3 rfl
                  exact px_iret (st := []) hG dX11_count_231 rfl rfl (fun aa_1 ee => by cases ee; exact ⟨_, rfl, Rt7, Ff9⟩)
                · show G 232 [some (.inr (.inr (40, 0))), some (.inl aa), some (.inl v2_14), some (.inl v3_15), some (.inl v4_16), some (.inl v5_17), some (.inl v6_26), none, none] [] 122 t7
                  refine px_aload_n hG dX11_count_232 rfl ?_
                  refine gi_40_3 hG dX11_count_233 fl_X11_110 Rt7 (fun x49 ex49 lx49 ux49 => ?_)
                  have ex49 : s0 40 0 3 = x49 := (Ff9 40 0 3 rfl).symm.trans ex49
                  refine px_iload_n hG dX11_count_236 rfl ?_
                  refine px_isub hG dX11_count_237 ?_
                  have jj50 := Ff9 40 0 0 rfl
                  have jj51 := Ff9 40 0 1 rfl
                  have jj52 := Ff9 40 0 2 rfl
                  have jj53 := Ff9 40 0 3 rfl
                  exact px_iret (st := []) hG dX11_count_238 rfl rfl (fun aa_1 ee => by cases ee; exact ⟨_, rfl, Rt7, Ff9⟩)
                · show G 239 [some (.inr (.inr (40, 0))), some (.inl aa), some (.inl v2_14), some (.inl v3_15), some (.inl v4_16), some (.inl v5_17), some (.inl v6_26), none, none] [] 122 t7
                  refine px_iload_n hG dX11_count_239 rfl ?_
                  have jj54 := Ff9 40 0 0 rfl
                  have jj55 := Ff9 40 0 1 rfl
                  have jj56 := Ff9 40 0 2 rfl
                  have jj57 := Ff9 40 0 3 rfl
                  exact px_iret (st := []) hG dX11_count_240 rfl rfl (fun aa_1 ee => by cases ee; exact ⟨_, rfl, Rt7, Ff9⟩)
                · show G 241 [some (.inr (.inr (40, 0))), some (.inl aa), some (.inl v2_14), some (.inl v3_15), some (.inl v4_16), some (.inl v5_17), some (.inl v6_26), none, none] [] 122 t7
                  refine px_iload hG dX11_count_241 rfl ?_
                  have jj58 := Ff9 40 0 0 rfl
                  have jj59 := Ff9 40 0 1 rfl
                  have jj60 := Ff9 40 0 2 rfl
                  have jj61 := Ff9 40 0 3 rfl
                  exact px_iret (st := []) hG dX11_count_243 rfl rfl (fun aa_1 ee => by cases ee; exact ⟨_, rfl, Rt7, Ff9⟩)
                · show G 244 [some (.inr (.inr (40, 0))), some (.inl aa), some (.inl v2_14), some (.inl v3_15), some (.inl v4_16), some (.inl v5_17), some (.inl v6_26), none, none] [] 122 t7
                  refine px_iload hG dX11_count_244 rfl ?_
                  have jj62 := Ff9 40 0 0 rfl
                  have jj63 := Ff9 40 0 1 rfl
                  have jj64 := Ff9 40 0 2 rfl
                  have jj65 := Ff9 40 0 3 rfl
                  exact px_iret (st := []) hG dX11_count_246 rfl rfl (fun aa_1 ee => by cases ee; exact ⟨_, rfl, Rt7, Ff9⟩)
                · show G 247 [some (.inr (.inr (40, 0))), some (.inl aa), some (.inl v2_14), some (.inl v3_15), some (.inl v4_16), some (.inl v5_17), some (.inl v6_26), none, none] [] 122 t7
                  refine px_iload hG dX11_count_247 rfl ?_
                  have jj66 := Ff9 40 0 0 rfl
                  have jj67 := Ff9 40 0 1 rfl
                  have jj68 := Ff9 40 0 2 rfl
                  have jj69 := Ff9 40 0 3 rfl
                  exact px_iret (st := []) hG dX11_count_249 rfl rfl (fun aa_1 ee => by cases ee; exact ⟨_, rfl, Rt7, Ff9⟩)
              refine px_ic_gt hG dX11_count_146 (tgt := 175) (by decide) ⟨by omega, by omega⟩ ⟨by omega, by omega⟩ (fun c32 => ?_) (fun c32 => ?_)
              · refine px_weak hG (L2 := [some (.inr (.inr (40, 0))), some (.inl aa), some (.inl v2_14), some (.inl v3_15), some (.inl v4_16), some (.inl v5_17), some (.inl v6_26), none, none]) ⟨Or.inr rfl, Or.inr rfl, Or.inr rfl, Or.inr rfl, Or.inr rfl, Or.inr rfl, Or.inr rfl, Or.inl rfl, Or.inr rfl, trivial⟩ ?_
                exact J175_33  (by omega)
              · refine px_iload hG dX11_count_149 rfl ?_
                refine px_aload_n hG dX11_count_151 rfl ?_
                refine gr_40_7 hG dX11_count_152 fl_X11_23 Rt7 ?_
                refine px_iload hG dX11_count_155 rfl ?_
                refine al_44 hG dX11_count_157 Rt7 (by omega) (fun x70 ex70 lx70 ux70 => ?_)
                refine px_if_ne hG dX11_count_158 (tgt := 165) (by decide) ⟨by omega, by omega⟩ (fun c71 => ?_) (fun c71 => ?_)
                · refine px_iconst hG dX11_count_165 ?_
                  refine px_iadd hG dX11_count_166 ?_
                  refine px_istore hG dX11_count_167 (Nat.le_of_ble_eq_true rfl) (L2 := [some (.inr (.inr (40, 0))), some (.inl aa), some (.inl v2_14), some (.inl v3_15), some (.inl v4_16), some (.inl v5_17), some (.inl (v6_26 + 0)), some (.inl v7_27), none]) rfl ?_
                  refine px_iinc hG dX11_count_169 (Nat.le_of_ble_eq_true rfl) rfl (L2 := [some (.inr (.inr (40, 0))), some (.inl aa), some (.inl v2_14), some (.inl v3_15), some (.inl v4_16), some (.inl v5_17), some (.inl (v6_26 + 0)), some (.inl (v7_27 + 1)), none]) rfl ?_
                  refine px_goto hG dX11_count_172 (tgt := 140) (by decide) ?_
                  exact ih28 (v6_26 + 0) (v7_27 + 1) (by omega) (by omega)
                · refine px_iconst hG dX11_count_161 ?_
                  refine px_goto hG dX11_count_162 (tgt := 166) (by decide) ?_
                  refine px_iadd hG dX11_count_166 ?_
                  refine px_istore hG dX11_count_167 (Nat.le_of_ble_eq_true rfl) (L2 := [some (.inr (.inr (40, 0))), some (.inl aa), some (.inl v2_14), some (.inl v3_15), some (.inl v4_16), some (.inl v5_17), some (.inl (v6_26 + 1)), some (.inl v7_27), none]) rfl ?_
                  refine px_iinc hG dX11_count_169 (Nat.le_of_ble_eq_true rfl) rfl (L2 := [some (.inr (.inr (40, 0))), some (.inl aa), some (.inl v2_14), some (.inl v3_15), some (.inl v4_16), some (.inl v5_17), some (.inl (v6_26 + 1)), some (.inl (v7_27 + 1)), none]) rfl ?_
                  refine px_goto hG dX11_count_172 (tgt := 140) (by decide) ?_
                  exact ih28 (v6_26 + 1) (v7_27 + 1) (by omega) (by omega)
          exact L140 _ 0 1 (by omega) (Nat.lt_succ_self _)
        refine px_ic_gt hG dX11_count_40 (tgt := 137) (by decide) ⟨by omega, by omega⟩ ⟨by omega, by omega⟩ (fun c23 => ?_) (fun c23 => ?_)
        · refine px_weak hG (L2 := [some (.inr (.inr (40, 0))), some (.inl aa), some (.inl v2_14), some (.inl v3_15), some (.inl v4_16), some (.inl v5_17), some (.inl 0), none, none]) ⟨Or.inr rfl, Or.inr rfl, Or.inr rfl, Or.inr rfl, Or.inr rfl, Or.inr rfl, Or.inr rfl, Or.inl rfl, Or.inr rfl, trivial⟩ ?_
          exact J137_24  (by omega)
        · refine px_aload_n hG dX11_count_43 rfl ?_
          refine gr_40_6 hG dX11_count_44 fl_X11_20 Rt7 ?_
          refine px_iload hG dX11_count_47 rfl ?_
          refine al_43 hG dX11_count_49 Rt7 (by omega) (fun x72 ex72 lx72 ux72 => ?_)
          have J63_75 : ∀ (j74 : Int), (-20 ≤ j74 ∧ j74 ≤ 20) → G 63 [some (.inr (.inr (40, 0))), some (.inl aa), some (.inl v2_14), some (.inl v3_15), some (.inl v4_16), some (.inl v5_17), some (.inl 0), some (.inl v7_18), none] [.inl j74] 122 t7 := by
            intro j74 inv76
            refine px_istore hG dX11_count_63 (Nat.le_of_ble_eq_true rfl) (L2 := [some (.inr (.inr (40, 0))), some (.inl aa), some (.inl v2_14), some (.inl v3_15), some (.inl v4_16), some (.inl v5_17), some (.inl 0), some (.inl v7_18), some (.inl j74)]) rfl ?_
            refine px_iload_n hG dX11_count_65 rfl ?_
            refine px_aload_n hG dX11_count_66 rfl ?_
            refine gr_40_6 hG dX11_count_67 fl_X11_20 Rt7 ?_
            refine px_iload hG dX11_count_70 rfl ?_
            refine al_43 hG dX11_count_72 Rt7 (by omega) (fun x77 ex77 lx77 ux77 => ?_)
            have J81_80 : ∀ (j79 : Int), ((x77 ≤ 0 ∧ j79 = 0) ∨ (¬ (x77 ≤ 0) ∧ j79 = 1)) → G 81 [some (.inr (.inr (40, 0))), some (.inl aa), none, some (.inl v3_15), some (.inl v4_16), some (.inl v5_17), some (.inl 0), some (.inl v7_18), some (.inl j74)] [.inl j79, .inl v2_14] 122 t7 := by
              intro j79 inv81
              refine px_iadd hG dX11_count_81 ?_
              refine px_istore_n hG dX11_count_82 (Nat.le_of_ble_eq_true rfl) (L2 := [some (.inr (.inr (40, 0))), some (.inl aa), some (.inl (v2_14 + j79)), some (.inl v3_15), some (.inl v4_16), some (.inl v5_17), some (.inl 0), some (.inl v7_18), some (.inl j74)]) rfl ?_
              refine px_iload_n hG dX11_count_83 rfl ?_
              refine px_aload_n hG dX11_count_84 rfl ?_
              refine gr_40_6 hG dX11_count_85 fl_X11_20 Rt7 ?_
              refine px_iload hG dX11_count_88 rfl ?_
              refine al_43 hG dX11_count_90 Rt7 (by omega) (fun x82 ex82 lx82 ux82 => ?_)
              refine px_aload_n hG dX11_count_91 rfl ?_
              refine gr_40_4 hG dX11_count_92 fl_X11_13 Rt7 ?_
              refine px_iload hG dX11_count_95 rfl ?_
              refine al_41 hG dX11_count_97 Rt7 (by omega) (fun x83 ex83 lx83 ux83 => ?_)
              have J106_86 : ∀ (j85 : Int), ((x82 ≠ x83 ∧ j85 = 0) ∨ (¬ (x82 ≠ x83) ∧ j85 = 1)) → G 106 [some (.inr (.inr (40, 0))), some (.inl aa), some (.inl (v2_14 + j79)), none, some (.inl v4_16), some (.inl v5_17), some (.inl 0), some (.inl v7_18), some (.inl j74)] [.inl j85, .inl v3_15] 122 t7 := by
                intro j85 inv87
                refine px_iadd hG dX11_count_106 ?_
                refine px_istore_n hG dX11_count_107 (Nat.le_of_ble_eq_true rfl) (L2 := [some (.inr (.inr (40, 0))), some (.inl aa), some (.inl (v2_14 + j79)), some (.inl (v3_15 + j85)), some (.inl v4_16), some (.inl v5_17), some (.inl 0), some (.inl v7_18), some (.inl j74)]) rfl ?_
                refine px_iload hG dX11_count_108 rfl ?_
                refine px_iload hG dX11_count_110 rfl ?_
                refine px_iadd hG dX11_count_112 ?_
                refine px_istore hG dX11_count_113 (Nat.le_of_ble_eq_true rfl) (L2 := [some (.inr (.inr (40, 0))), some (.inl aa), some (.inl (v2_14 + j79)), some (.inl (v3_15 + j85)), some (.inl (v4_16 + j74)), some (.inl v5_17), some (.inl 0), some (.inl v7_18), some (.inl j74)]) rfl ?_
                refine px_iload hG dX11_count_115 rfl ?_
                refine px_iload hG dX11_count_117 rfl ?_
                refine px_ic_le hG dX11_count_119 (tgt := 127) (by decide) ⟨by omega, by omega⟩ ⟨by omega, by omega⟩ (fun c88 => ?_) (fun c88 => ?_)
                · refine px_iload hG dX11_count_127 rfl ?_
                  refine px_istore hG dX11_count_129 (Nat.le_of_ble_eq_true rfl) (L2 := [some (.inr (.inr (40, 0))), some (.inl aa), some (.inl (v2_14 + j79)), some (.inl (v3_15 + j85)), some (.inl (v4_16 + j74)), some (.inl v5_17), some (.inl 0), some (.inl v7_18), some (.inl j74)]) rfl ?_
                  refine px_iinc hG dX11_count_131 (Nat.le_of_ble_eq_true rfl) rfl (L2 := [some (.inr (.inr (40, 0))), some (.inl aa), some (.inl (v2_14 + j79)), some (.inl (v3_15 + j85)), some (.inl (v4_16 + j74)), some (.inl v5_17), some (.inl 0), some (.inl (v7_18 + 1)), some (.inl j74)]) rfl ?_
                  refine px_goto hG dX11_count_134 (tgt := 34) (by decide) ?_
                  refine px_weak hG (L2 := [some (.inr (.inr (40, 0))), some (.inl aa), some (.inl (v2_14 + j79)), some (.inl (v3_15 + j85)), some (.inl (v4_16 + j74)), some (.inl v5_17), some (.inl 0), some (.inl (v7_18 + 1)), none]) ⟨Or.inr rfl, Or.inr rfl, Or.inr rfl, Or.inr rfl, Or.inr rfl, Or.inr rfl, Or.inr rfl, Or.inr rfl, Or.inl rfl, trivial⟩ ?_
                  exact ih19 (v2_14 + j79) (v3_15 + j85) (v4_16 + j74) v5_17 (v7_18 + 1) (⟨by omega, by omega⟩) (by omega)
                · refine px_iload hG dX11_count_122 rfl ?_
                  refine px_goto hG dX11_count_124 (tgt := 129) (by decide) ?_
                  refine px_istore hG dX11_count_129 (Nat.le_of_ble_eq_true rfl) (L2 := [some (.inr (.inr (40, 0))), some (.inl aa), some (.inl (v2_14 + j79)), some (.inl (v3_15 + j85)), some (.inl (v4_16 + j74)), some (.inl j74), some (.inl 0), some (.inl v7_18), some (.inl j74)]) rfl ?_
                  refine px_iinc hG dX11_count_131 (Nat.le_of_ble_eq_true rfl) rfl (L2 := [some (.inr (.inr (40, 0))), some (.inl aa), some (.inl (v2_14 + j79)), some (.inl (v3_15 + j85)), some (.inl (v4_16 + j74)), some (.inl j74), some (.inl 0), some (.inl (v7_18 + 1)), some (.inl j74)]) rfl ?_
                  refine px_goto hG dX11_count_134 (tgt := 34) (by decide) ?_
                  refine px_weak hG (L2 := [some (.inr (.inr (40, 0))), some (.inl aa), some (.inl (v2_14 + j79)), some (.inl (v3_15 + j85)), some (.inl (v4_16 + j74)), some (.inl j74), some (.inl 0), some (.inl (v7_18 + 1)), none]) ⟨Or.inr rfl, Or.inr rfl, Or.inr rfl, Or.inr rfl, Or.inr rfl, Or.inr rfl, Or.inr rfl, Or.inr rfl, Or.inl rfl, trivial⟩ ?_
                  exact ih19 (v2_14 + j79) (v3_15 + j85) (v4_16 + j74) j74 (v7_18 + 1) (⟨by omega, by omega⟩) (by omega)
              refine px_ic_ne hG dX11_count_98 (tgt := 105) (by decide) ⟨by omega, by omega⟩ ⟨by omega, by omega⟩ (fun c84 => ?_) (fun c84 => ?_)
              · refine px_iconst hG dX11_count_105 ?_
                refine px_weak hG (L2 := [some (.inr (.inr (40, 0))), some (.inl aa), some (.inl (v2_14 + j79)), none, some (.inl v4_16), some (.inl v5_17), some (.inl 0), some (.inl v7_18), some (.inl j74)]) ⟨Or.inr rfl, Or.inr rfl, Or.inr rfl, Or.inl rfl, Or.inr rfl, Or.inr rfl, Or.inr rfl, Or.inr rfl, Or.inr rfl, trivial⟩ ?_
                exact J106_86 0 (by omega)
              · refine px_iconst hG dX11_count_101 ?_
                refine px_goto hG dX11_count_102 (tgt := 106) (by decide) ?_
                refine px_weak hG (L2 := [some (.inr (.inr (40, 0))), some (.inl aa), some (.inl (v2_14 + j79)), none, some (.inl v4_16), some (.inl v5_17), some (.inl 0), some (.inl v7_18), some (.inl j74)]) ⟨Or.inr rfl, Or.inr rfl, Or.inr rfl, Or.inl rfl, Or.inr rfl, Or.inr rfl, Or.inr rfl, Or.inr rfl, Or.inr rfl, trivial⟩ ?_
                exact J106_86 1 (by omega)
            refine px_if_le hG dX11_count_73 (tgt := 80) (by decide) ⟨by omega, by omega⟩ (fun c78 => ?_) (fun c78 => ?_)
            · refine px_iconst hG dX11_count_80 ?_
              refine px_weak hG (L2 := [some (.inr (.inr (40, 0))), some (.inl aa), none, some (.inl v3_15), some (.inl v4_16), some (.inl v5_17), some (.inl 0), some (.inl v7_18), some (.inl j74)]) ⟨Or.inr rfl, Or.inr rfl, Or.inl rfl, Or.inr rfl, Or.inr rfl, Or.inr rfl, Or.inr rfl, Or.inr rfl, Or.inr rfl, trivial⟩ ?_
              exact J81_80 0 (by omega)
            · refine px_iconst hG dX11_count_76 ?_
              refine px_goto hG dX11_count_77 (tgt := 81) (by decide) ?_
              refine px_weak hG (L2 := [some (.inr (.inr (40, 0))), some (.inl aa), none, some (.inl v3_15), some (.inl v4_16), some (.inl v5_17), some (.inl 0), some (.inl v7_18), some (.inl j74)]) ⟨Or.inr rfl, Or.inr rfl, Or.inl rfl, Or.inr rfl, Or.inr rfl, Or.inr rfl, Or.inr rfl, Or.inr rfl, Or.inr rfl, trivial⟩ ?_
              exact J81_80 1 (by omega)
          refine px_if_le hG dX11_count_50 (tgt := 62) (by decide) ⟨by omega, by omega⟩ (fun c73 => ?_) (fun c73 => ?_)
          · refine px_iconst hG dX11_count_62 ?_
            exact J63_75 0 (by omega)
          · refine px_aload_n hG dX11_count_53 rfl ?_
            refine px_iload hG dX11_count_54 rfl ?_
            refine jv1 hG dX11_count_56 ct_X11_goes lk_X11_134 ⟨rfl, rfl⟩ (by decide) ⟨Nat.le_of_ble_eq_true rfl, Nat.le_of_ble_eq_true rfl, Nat.le_of_ble_eq_true rfl⟩ (Nat.le_of_ble_eq_true rfl) ⟨v7_18, rfl, rfl, Rt7, ⟨by omega, (pm_J2_fr Ff9 rfl J2)⟩⟩ (fun r89 t90 pr89 => ?_)
            obtain ⟨x91, rfl, rfl, br89⟩ := pr89 _ rfl
            show G 59 [some (.inr (.inr (40, 0))), some (.inl aa), some (.inl v2_14), some (.inl v3_15), some (.inl v4_16), some (.inl v5_17), some (.inl 0), some (.inl v7_18), none] [.inl x91] 122 t7
            refine px_goto hG dX11_count_59 (tgt := 63) (by decide) ?_
            exact J63_75 x91 (by omega)
    exact L34 _ 0 0 0 0 1 (⟨by omega, by omega⟩) (Nat.lt_succ_self _)
  · refine px_iconst hG dX11_count_12 ?_
    exact px_iret (st := []) hG dX11_count_13 rfl rfl (fun aa_1 ee => by cases ee; exact ⟨_, rfl, R0, pm_Fr_rf⟩))
def pre_X11_good (as : List pm_V) (n : Nat) (σ : pm_H) : Prop := as = [.inr (.inr (40, 0))] ∧ n = 122 ∧ pm_Rng σ ∧ (pm_J2 σ)
def po_X11_good (as : List pm_V) (_ : Nat) (σ : pm_H) (r : Option pm_V) (τ : pm_H) : Prop := as = [.inr (.inr (40, 0))] → ∃ v : Int, r = some (.inl v) ∧ pm_Rng τ ∧ pm_Fr [(43, none), (44, none)] σ τ
set_option maxRecDepth 20000 in
set_option maxHeartbeats 4000000 in
theorem ct_X11_good : pm_Ct yX11_good cX11_good 1 (some .int) 3 0 pre_X11_good po_X11_good := pm_sound (ini := false) (by decide +kernel) pk_X11_good (fun h => absurd h (by decide)) (by
  rintro as n s0 ⟨rfl, rfl, R0, hpre⟩
  refine ⟨by decide, Nat.le_of_ble_eq_true rfl, fun G hG => ?_⟩
  have hG : pm_Rules (RX11, 3, 122, cX11_good, -1, (fun _ => 0), false, (some .int), po_X11_good [.inr (.inr (40, 0))] 122 s0) G := hG
  show G 0 [some (.inr (.inr (40, 0)))] [] 122 s0
  have B0 := pb_40_0 R0
  have B1 := pb_40_1 R0
  have B2 := pb_40_2 R0
  have B3 := pb_40_3 R0
  have J2 := hpre
  have JK := J2.1
  have JW := J2.2
  refine px_aload_n hG dX11_good_0 rfl ?_
  refine jv0 hG dX11_good_1 ct_X11_isGood lk_X11_139 ⟨rfl, rfl⟩ (by decide) ⟨Nat.le_of_ble_eq_true rfl, Nat.le_of_ble_eq_true rfl, Nat.le_of_ble_eq_true rfl⟩ (Nat.le_of_ble_eq_true rfl) ⟨rfl, rfl, R0, J2⟩ (fun r1 t3 pr1 => ?_)
  obtain ⟨x4, rfl, Rt3, Ft3, br1⟩ := pr1 rfl
  have Ff5 := pm_Fr_mono Ft3 (M := [(43, none), (44, none)]) rfl
  have jj6 := Ft3 40 0 0 rfl
  have jj7 := Ft3 40 0 1 rfl
  have jj8 := Ft3 40 0 2 rfl
  have jj9 := Ft3 40 0 3 rfl
  show G 4 [some (.inr (.inr (40, 0)))] [.inl x4] 122 t3
  refine px_if_eq hG dX11_good_4 (tgt := 11) (by decide) ⟨by omega, by omega⟩ (fun c10 => ?_) (fun c10 => ?_)
  · refine px_iconst hG dX11_good_11 ?_
    have jj11 := Ff5 40 0 0 rfl
    have jj12 := Ff5 40 0 1 rfl
    have jj13 := Ff5 40 0 2 rfl
    have jj14 := Ff5 40 0 3 rfl
    exact px_iret (st := []) hG dX11_good_12 rfl rfl (fun _ => by exact ⟨_, rfl, Rt3, Ff5⟩)
  · refine px_iconst hG dX11_good_7 ?_
    refine px_goto hG dX11_good_8 (tgt := 12) (by decide) ?_
    have jj15 := Ff5 40 0 0 rfl
    have jj16 := Ff5 40 0 1 rfl
    have jj17 := Ff5 40 0 2 rfl
    have jj18 := Ff5 40 0 3 rfl
    exact px_iret (st := []) hG dX11_good_12 rfl rfl (fun _ => by exact ⟨_, rfl, Rt3, Ff5⟩))
def pre_X11_choose (as : List pm_V) (n : Nat) (σ : pm_H) : Prop := ∃ aa ab : Int, as = [.inr (.inr (40, 0)), .inl aa, .inl ab] ∧ n = 122 ∧ pm_Rng σ ∧ ((pm_in aa ∧ aa ≤ 10 ∧ pm_in ab) ∧ pm_J2 σ)
def po_X11_choose (as : List pm_V) (_ : Nat) (σ : pm_H) (r : Option pm_V) (τ : pm_H) : Prop := ∀ aa ab : Int, as = [.inr (.inr (40, 0)), .inl aa, .inl ab] → ∃ v : Int, r = some (.inr (.inl v)) ∧ σ = τ
set_option maxRecDepth 20000 in
set_option maxHeartbeats 4000000 in
theorem ct_X11_choose : pm_Ct yX11_choose cX11_choose 3 (some .long) 1 0 pre_X11_choose po_X11_choose := pm_sound (ini := false) (by decide +kernel) pk_X11_choose (fun h => absurd h (by decide)) (by
  rintro as n s0 ⟨aa, ab, rfl, rfl, R0, hpre⟩
  refine ⟨by decide, Nat.le_of_ble_eq_true rfl, fun G hG => ?_⟩
  have hG : pm_Rules (RX11, 1, 122, cX11_choose, -1, (fun _ => 0), false, (some .long), po_X11_choose [.inr (.inr (40, 0)), .inl aa, .inl ab] 122 s0) G := hG
  show G 0 [some (.inr (.inr (40, 0))), some (.inl aa), some (.inl ab)] [] 122 s0
  have B0 := pb_40_0 R0
  have B1 := pb_40_1 R0
  have B2 := pb_40_2 R0
  have B3 := pb_40_3 R0
  have J2 := hpre.2
  have HP := hpre.1
  have JK := J2.1
  have JW := J2.2
  refine px_iload_n hG dX11_choose_0 rfl ?_
  refine px_i2l hG dX11_choose_1 ⟨by omega, by omega⟩ ?_
  refine px_lconst hG dX11_choose_2 ?_
  show G 3 [some (.inr (.inr (40, 0))), some (.inl aa), some (.inl ab)] [.inr (.inl 0), .inr (.inl ab)] 122 s0
  refine px_iload_n hG dX11_choose_3 rfl ?_
  refine px_i2l hG dX11_choose_4 ⟨by omega, by omega⟩ ?_
  refine js3 hG dX11_choose_5 ct_X11_in lk_X11_96 ⟨Nat.le_of_ble_eq_true rfl, Nat.le_of_ble_eq_true rfl, Nat.le_of_ble_eq_true rfl⟩ (Nat.le_of_ble_eq_true rfl) ⟨ab, 0, aa, rfl, rfl, R0, by omega⟩ (fun r1 t2 pr1 => ?_)
  obtain ⟨x3, rfl, rfl, br1⟩ := pr1 _ _ _ rfl
  show G 8 [some (.inr (.inr (40, 0))), some (.inl aa), some (.inl ab)] [.inl x3] 122 s0
  refine px_if_eq hG dX11_choose_8 (tgt := 25) (by decide) ⟨by omega, by omega⟩ (fun c4 => ?_) (fun c4 => ?_)
  · refine px_lconst hG dX11_choose_25 ?_
    show G 26 [some (.inr (.inr (40, 0))), some (.inl aa), some (.inl ab)] [.inr (.inl 0)] 122 s0
    exact px_lret (st := []) hG dX11_choose_26 rfl rfl (fun aa_1 ab_1 ee => by cases ee; exact ⟨_, rfl, rfl⟩)
  · refine px_aload_n hG dX11_choose_11 rfl ?_
    refine gr_40_9 hG dX11_choose_12 fl_X11_29 R0 ?_
    refine px_bipush hG dX11_choose_15 (by decide) ?_
    refine px_iload_n hG dX11_choose_17 rfl ?_
    refine px_imul hG dX11_choose_18 ?_
    refine px_iload_n hG dX11_choose_19 rfl ?_
    refine px_iadd hG dX11_choose_20 ?_
    refine al_46 hG dX11_choose_21 (by omega) (fun z5 ez5 => ?_)
    refine px_goto hG dX11_choose_22 (tgt := 26) (by decide) ?_
    exact px_lret (st := []) hG dX11_choose_26 rfl rfl (fun aa_1 ab_1 ee => by cases ee; exact ⟨_, rfl, rfl⟩))
def pre_X11_power (as : List pm_V) (n : Nat) (σ : pm_H) : Prop := ∃ bs ex : Int, as = [.inr (.inl bs), .inl ex] ∧ n = 122 ∧ pm_Rng σ ∧ (-100 ≤ ex ∧ ex ≤ 100)
def po_X11_power (as : List pm_V) (_ : Nat) (σ : pm_H) (r : Option pm_V) (τ : pm_H) : Prop := ∀ bs ex : Int, as = [.inr (.inl bs), .inl ex] → ∃ v : Int, r = some (.inr (.inl v)) ∧ σ = τ
set_option maxRecDepth 20000 in
set_option maxHeartbeats 4000000 in
theorem ct_X11_power : pm_Ct yX11_power cX11_power 6 (some .long) 0 0 pre_X11_power po_X11_power := pm_sound (ini := false) (by decide +kernel) pk_X11_power (fun h => absurd h (by decide)) (by
  rintro as n s0 ⟨bs, ex, rfl, rfl, R0, hpre⟩
  refine ⟨by decide, Nat.le_of_ble_eq_true rfl, fun G hG => ?_⟩
  have hG : pm_Rules (RX11, 0, 122, cX11_power, -1, (fun _ => 0), false, (some .long), po_X11_power [.inr (.inl bs), .inl ex] 122 s0) G := hG
  show G 0 [some (.inr (.inl bs)), none, some (.inl ex), none, none, none] [] 122 s0
  refine px_lconst hG dX11_power_0 ?_
  show G 1 [some (.inr (.inl bs)), none, some (.inl ex), none, none, none] [.inr (.inl 1)] 122 s0
  refine px_lstore_n hG dX11_power_1 (Nat.le_of_ble_eq_true rfl) (L2 := [some (.inr (.inl bs)), none, some (.inl ex), some (.inr (.inl 1)), none, none]) rfl ?_
  refine px_iconst hG dX11_power_2 ?_
  refine px_istore hG dX11_power_3 (Nat.le_of_ble_eq_true rfl) (L2 := [some (.inr (.inl bs)), none, some (.inl ex), some (.inr (.inl 1)), none, some (.inl 0)]) rfl ?_
  have L5 : ∀ (N : Nat) (v3_1 : Int) (v5_2 : Int), ((0 ≤ v5_2 ∧ v5_2 ≤ 10000)) → (10001 - v5_2).toNat < N → G 5 [some (.inr (.inl bs)), none, some (.inl ex), some (.inr (.inl v3_1)), none, some (.inl v5_2)] [] 122 s0 := by
    intro N
    induction N with
    | zero => intro v3_1 v5_2 inv4 hm5; exact absurd hm5 (Nat.not_lt_zero _)
    | succ N ih3 =>
      intro v3_1 v5_2 inv4 hm5
      refine px_iload hG dX11_power_5 rfl ?_
      refine px_iload_n hG dX11_power_7 rfl ?_
      refine px_ic_ge hG dX11_power_8 (tgt := 21) (by decide) ⟨by omega, by omega⟩ ⟨by omega, by omega⟩ (fun c6 => ?_) (fun c6 => ?_)
      · refine px_lload_n hG dX11_power_21 rfl ?_
        exact px_lret (st := []) hG dX11_power_22 rfl rfl (fun bs_1 ex_1 ee => by cases ee; exact ⟨_, rfl, rfl⟩)
      · refine px_lload_n hG dX11_power_11 rfl ?_
        refine px_lload_n hG dX11_power_12 rfl ?_
        refine px_lmul hG dX11_power_13 ?_
        refine px_lstore_n hG dX11_power_14 (Nat.le_of_ble_eq_true rfl) (L2 := [some (.inr (.inl bs)), none, some (.inl ex), some (.inr (.inl (v3_1 * bs))), none, some (.inl v5_2)]) rfl ?_
        refine px_iinc hG dX11_power_15 (Nat.le_of_ble_eq_true rfl) rfl (L2 := [some (.inr (.inl bs)), none, some (.inl ex), some (.inr (.inl (v3_1 * bs))), none, some (.inl (v5_2 + 1))]) rfl ?_
        refine px_goto hG dX11_power_18 (tgt := 5) (by decide) ?_
        exact ih3 (v3_1 * bs) (v5_2 + 1) (by omega) (by omega)
  exact L5 _ 1 0 (by omega) (Nat.lt_succ_self _))
def pre_X11_finishes (as : List pm_V) (n : Nat) (σ : pm_H) : Prop := ∃ pl le : Int, as = [.inr (.inr (40, 0)), .inl pl, .inl le] ∧ n = 122 ∧ pm_Rng σ ∧ ((1 ≤ pl ∧ pl ≤ 10 ∧ 0 ≤ le ∧ le ≤ 10) ∧ pm_J2 σ)
def po_X11_finishes (as : List pm_V) (_ : Nat) (σ : pm_H) (r : Option pm_V) (τ : pm_H) : Prop := ∀ pl le : Int, as = [.inr (.inr (40, 0)), .inl pl, .inl le] → ∃ v : Int, r = some (.inr (.inl v)) ∧ pm_Rng τ ∧ pm_Fr [(48, none)] σ τ
set_option maxRecDepth 20000 in
set_option maxHeartbeats 4000000 in
theorem ct_X11_finishes : pm_Ct yX11_finishes cX11_finishes 9 (some .long) 2 0 pre_X11_finishes po_X11_finishes := pm_sound (ini := false) (by decide +kernel) pk_X11_finishes (fun h => absurd h (by decide)) (by
  rintro as n s0 ⟨pl, le, rfl, rfl, R0, hpre⟩
  refine ⟨by decide, Nat.le_of_ble_eq_true rfl, fun G hG => ?_⟩
  have hG : pm_Rules (RX11, 2, 122, cX11_finishes, -1, (fun _ => 0), false, (some .long), po_X11_finishes [.inr (.inr (40, 0)), .inl pl, .inl le] 122 s0) G := hG
  show G 0 [some (.inr (.inr (40, 0))), some (.inl pl), some (.inl le), none, none, none, none, none, none] [] 122 s0
  have B0 := pb_40_0 R0
  have B1 := pb_40_1 R0
  have B2 := pb_40_2 R0
  have B3 := pb_40_3 R0
  have J2 := hpre.2
  have HP := hpre.1
  have JK := J2.1
  have JW := J2.2
  refine px_iconst hG dX11_finishes_0 ?_
  refine px_istore_n hG dX11_finishes_1 (Nat.le_of_ble_eq_true rfl) (L2 := [some (.inr (.inr (40, 0))), some (.inl pl), some (.inl le), some (.inl 0), none, none, none, none, none]) rfl ?_
  refine px_iconst hG dX11_finishes_2 ?_
  refine px_istore hG dX11_finishes_3 (Nat.le_of_ble_eq_true rfl) (L2 := [some (.inr (.inr (40, 0))), some (.inl pl), some (.inl le), some (.inl 0), some (.inl 0), none, none, none, none]) rfl ?_
  have L5 : ∀ (N : Nat) (v4_1 : Int) (s2 : pm_H), pm_Rng s2 → pm_Fr [(48, none)] s0 s2 → ((0 ≤ v4_1 ∧ v4_1 ≤ 10000)) → (10001 - v4_1).toNat < N → G 5 [some (.inr (.inr (40, 0))), some (.inl pl), some (.inl le), some (.inl 0), some (.inl v4_1), none, none, none, none] [] 122 s2 := by
    intro N
    induction N with
    | zero => intro v4_1 s2 R3 F4 inv6 hm7; exact absurd hm7 (Nat.not_lt_zero _)
    | succ N ih5 =>
      intro v4_1 s2 R3 F4 inv6 hm7
      have jj8 := F4 40 0 0 rfl
      have jj9 := F4 40 0 1 rfl
      have jj10 := F4 40 0 2 rfl
      have jj11 := F4 40 0 3 rfl
      refine px_iload hG dX11_finishes_5 rfl ?_
      refine px_iload_n hG dX11_finishes_7 rfl ?_
      have J41_13 : ((v4_1 > le)) → G 41 [some (.inr (.inr (40, 0))), some (.inl pl), some (.inl le), some (.inl 0), none, none, none, none, none] [] 122 s2 := by
        intro inv14
        refine px_iload_n hG dX11_finishes_41 rfl ?_
        refine px_istore hG dX11_finishes_42 (Nat.le_of_ble_eq_true rfl) (L2 := [some (.inr (.inr (40, 0))), some (.inl pl), some (.inl le), some (.inl 0), some (.inl pl), none, none, none, none]) rfl ?_
        have L44 : ∀ (N : Nat) (v3_15 : Int) (v4_16 : Int) (s17 : pm_H), pm_Rng s17 → pm_Fr [(48, none)] s0 s17 → ((-10000 ≤ v4_16 ∧ v4_16 ≤ pl) ∧ (-12 * (pl - v4_16) ≤ v3_15 ∧ v3_15 ≤ 12 * (pl - v4_16))) → (v4_16 + 10001).toNat < N → G 44 [some (.inr (.inr (40, 0))), some (.inl pl), some (.inl le), some (.inl v3_15), some (.inl v4_16), none, none, none, none] [] 122 s17 := by
          intro N
          induction N with
          | zero => intro v3_15 v4_16 s17 R18 F19 inv21 hm22; exact absurd hm22 (Nat.not_lt_zero _)
          | succ N ih20 =>
            intro v3_15 v4_16 s17 R18 F19 inv21 hm22
            have jj23 := F19 40 0 0 rfl
            have jj24 := F19 40 0 1 rfl
            have jj25 := F19 40 0 2 rfl
            have jj26 := F19 40 0 3 rfl
            refine px_iload hG dX11_finishes_44 rfl ?_
            refine px_iconst hG dX11_finishes_46 ?_
            have J169_28 : ((v4_16 < 1)) → G 169 [some (.inr (.inr (40, 0))), none, some (.inl le), none, none, none, none, none, none] [] 122 s17 := by
              intro inv29
              refine px_aload_n hG dX11_finishes_169 rfl ?_
              refine gr_40_11 hG dX11_finishes_170 fl_X11_36 R18 ?_
              refine px_bipush hG dX11_finishes_173 (by decide) ?_
              refine px_iload_n hG dX11_finishes_175 rfl ?_
              refine px_iadd hG dX11_finishes_176 ?_
              refine al_48 hG dX11_finishes_177 (by omega) (fun z30 ez30 => ?_)
              have jj31 := F19 40 0 0 rfl
              have jj32 := F19 40 0 1 rfl
              have jj33 := F19 40 0 2 rfl
              have jj34 := F19 40 0 3 rfl
              exact px_lret (st := []) hG dX11_finishes_178 rfl rfl (fun pl_1 le_1 ee => by cases ee; exact ⟨_, rfl, R18, F19⟩)
            refine px_ic_lt hG dX11_finishes_47 (tgt := 169) (by decide) ⟨by omega, by omega⟩ ⟨by omega, by omega⟩ (fun c27 => ?_) (fun c27 => ?_)
            · refine px_weak hG (L2 := [some (.inr (.inr (40, 0))), none, some (.inl le), none, none, none, none, none, none]) ⟨Or.inr rfl, Or.inl rfl, Or.inr rfl, Or.inl rfl, Or.inl rfl, Or.inr rfl, Or.inr rfl, Or.inr rfl, Or.inr rfl, trivial⟩ ?_
              exact J169_28  (by omega)
            · refine px_iload_n hG dX11_finishes_50 rfl ?_
              refine px_aload_n hG dX11_finishes_51 rfl ?_
              refine gr_40_10 hG dX11_finishes_52 fl_X11_33 R18 ?_
              refine px_iload hG dX11_finishes_55 rfl ?_
              refine al_47 hG dX11_finishes_57 R18 (by omega) (fun x35 ex35 lx35 ux35 => ?_)
              refine px_iadd hG dX11_finishes_58 ?_
              refine px_istore_n hG dX11_finishes_59 (Nat.le_of_ble_eq_true rfl) (L2 := [some (.inr (.inr (40, 0))), some (.inl pl), some (.inl le), some (.inl (v3_15 + x35)), some (.inl v4_16), none, none, none, none]) rfl ?_
              refine px_iconst hG dX11_finishes_60 ?_
              refine px_istore hG dX11_finishes_61 (Nat.le_of_ble_eq_true rfl) (L2 := [some (.inr (.inr (40, 0))), some (.inl pl), some (.inl le), some (.inl (v3_15 + x35)), some (.inl v4_16), some (.inl 0), none, none, none]) rfl ?_
              have L63 : ∀ (N : Nat) (v5_36 : Int) (s37 : pm_H), pm_Rng s37 → pm_Fr [(48, none)] s0 s37 → ((0 ≤ v5_36 ∧ v5_36 ≤ 10000)) → (10001 - v5_36).toNat < N → G 63 [some (.inr (.inr (40, 0))), some (.inl pl), some (.inl le), some (.inl (v3_15 + x35)), some (.inl v4_16), some (.inl v5_36), none, none, none] [] 122 s37 := by
                intro N
                induction N with
                | zero => intro v5_36 s37 R38 F39 inv41 hm42; exact absurd hm42 (Nat.not_lt_zero _)
                | succ N ih40 =>
                  intro v5_36 s37 R38 F39 inv41 hm42
                  have jj43 := F39 40 0 0 rfl
                  have jj44 := F39 40 0 1 rfl
                  have jj45 := F39 40 0 2 rfl
                  have jj46 := F39 40 0 3 rfl
                  refine px_iload hG dX11_finishes_63 rfl ?_
                  refine px_iload_n hG dX11_finishes_65 rfl ?_
                  refine px_ic_gt hG dX11_finishes_66 (tgt := 163) (by decide) ⟨by omega, by omega⟩ ⟨by omega, by omega⟩ (fun c47 => ?_) (fun c47 => ?_)
                  · refine px_iinc hG dX11_finishes_163 (Nat.le_of_ble_eq_true rfl) rfl (L2 := [some (.inr (.inr (40, 0))), some (.inl pl), some (.inl le), some (.inl (v3_15 + x35)), some (.inl (v4_16 + -1)), some (.inl v5_36), none, none, none]) rfl ?_
                    refine px_goto hG dX11_finishes_166 (tgt := 44) (by decide) ?_
                    refine px_weak hG (L2 := [some (.inr (.inr (40, 0))), some (.inl pl), some (.inl le), some (.inl (v3_15 + x35)), some (.inl (v4_16 + -1)), none, none, none, none]) ⟨Or.inr rfl, Or.inr rfl, Or.inr rfl, Or.inr rfl, Or.inr rfl, Or.inl rfl, Or.inr rfl, Or.inr rfl, Or.inr rfl, trivial⟩ ?_
                    exact ih20 (v3_15 + x35) (v4_16 + -1) s37 R38 F39 (⟨by omega, by omega⟩) (by omega)
                  · refine px_lconst hG dX11_finishes_69 ?_
                    show G 70 [some (.inr (.inr (40, 0))), some (.inl pl), some (.inl le), some (.inl (v3_15 + x35)), some (.inl v4_16), some (.inl v5_36), none, none, none] [.inr (.inl 0)] 122 s37
                    refine px_lstore hG dX11_finishes_70 (Nat.le_of_ble_eq_true rfl) (L2 := [some (.inr (.inr (40, 0))), some (.inl pl), some (.inl le), some (.inl (v3_15 + x35)), some (.inl v4_16), some (.inl v5_36), some (.inr (.inl 0)), none, none]) rfl ?_
                    refine px_iconst hG dX11_finishes_72 ?_
                    refine px_istore hG dX11_finishes_73 (Nat.le_of_ble_eq_true rfl) (L2 := [some (.inr (.inr (40, 0))), some (.inl pl), some (.inl le), some (.inl (v3_15 + x35)), some (.inl v4_16), some (.inl v5_36), some (.inr (.inl 0)), none, some (.inl 0)]) rfl ?_
                    have L75 : ∀ (N : Nat) (v6_48 : Int) (v8_49 : Int), ((0 ≤ v8_49 ∧ v8_49 ≤ 10000)) → (10001 - v8_49).toNat < N → G 75 [some (.inr (.inr (40, 0))), some (.inl pl), some (.inl le), some (.inl (v3_15 + x35)), some (.inl v4_16), some (.inl v5_36), some (.inr (.inl v6_48)), none, some (.inl v8_49)] [] 122 s37 := by
                      intro N
                      induction N with
                      | zero => intro v6_48 v8_49 inv51 hm52; exact absurd hm52 (Nat.not_lt_zero _)
                      | succ N ih50 =>
                        intro v6_48 v8_49 inv51 hm52
                        refine px_iload hG dX11_finishes_75 rfl ?_
                        refine px_iload hG dX11_finishes_77 rfl ?_
                        have J125_54 : ((v8_49 > v5_36)) → G 125 [some (.inr (.inr (40, 0))), some (.inl pl), some (.inl le), some (.inl (v3_15 + x35)), some (.inl v4_16), some (.inl v5_36), some (.inr (.inl v6_48)), none, none] [] 122 s37 := by
                          intro inv55
                          refine px_aload_n hG dX11_finishes_125 rfl ?_
                          refine gr_40_11 hG dX11_finishes_126 fl_X11_36 R38 ?_
                          refine px_bipush hG dX11_finishes_129 (by decide) ?_
                          refine px_iload hG dX11_finishes_131 rfl ?_
                          refine px_imul hG dX11_finishes_133 ?_
                          refine px_iload hG dX11_finishes_134 rfl ?_
                          refine px_iadd hG dX11_finishes_136 ?_
                          refine px_iload hG dX11_finishes_137 rfl ?_
                          refine px_iload_n hG dX11_finishes_139 rfl ?_
                          refine px_iadd hG dX11_finishes_140 ?_
                          refine px_iload_n hG dX11_finishes_141 rfl ?_
                          refine px_iload hG dX11_finishes_142 rfl ?_
                          refine px_isub hG dX11_finishes_144 ?_
                          refine px_iconst hG dX11_finishes_145 ?_
                          refine px_iadd hG dX11_finishes_146 ?_
                          refine px_ic_gt hG dX11_finishes_147 (tgt := 155) (by decide) ⟨by omega, by omega⟩ ⟨by omega, by omega⟩ (fun c56 => ?_) (fun c56 => ?_)
                          · refine px_lconst hG dX11_finishes_155 ?_
                            show G 156 [some (.inr (.inr (40, 0))), some (.inl pl), some (.inl le), some (.inl (v3_15 + x35)), some (.inl v4_16), some (.inl v5_36), some (.inr (.inl v6_48)), none, none] [.inr (.inl 0), .inl ((12 * v4_16) + v5_36), .inr (.inr (48, 0))] 122 s37
                            refine as_48 hG dX11_finishes_156 R38 (by omega) (fun s57 qs57 Rs57 => ?_)
                            have Fs57 := pm_Fr_up (F39) qs57 (M := [(48, none)]) rfl
                            have jj58 := pm_nec qs57 (c' := 40) (r' := 0) (i' := 0) (by decide)
                            have jj59 := pm_nec qs57 (c' := 40) (r' := 0) (i' := 1) (by decide)
                            have jj60 := pm_nec qs57 (c' := 40) (r' := 0) (i' := 2) (by decide)
                            have jj61 := pm_nec qs57 (c' := 40) (r' := 0) (i' := 3) (by decide)
                            refine px_iinc hG dX11_finishes_157 (Nat.le_of_ble_eq_true rfl) rfl (L2 := [some (.inr (.inr (40, 0))), some (.inl pl), some (.inl le), some (.inl (v3_15 + x35)), some (.inl v4_16), some (.inl (v5_36 + 1)), some (.inr (.inl v6_48)), none, none]) rfl ?_
                            refine px_goto hG dX11_finishes_160 (tgt := 63) (by decide) ?_
                            refine px_weak hG (L2 := [some (.inr (.inr (40, 0))), some (.inl pl), some (.inl le), some (.inl (v3_15 + x35)), some (.inl v4_16), some (.inl (v5_36 + 1)), none, none, none]) ⟨Or.inr rfl, Or.inr rfl, Or.inr rfl, Or.inr rfl, Or.inr rfl, Or.inr rfl, Or.inl rfl, Or.inr rfl, Or.inr rfl, trivial⟩ ?_
                            exact ih40 (v5_36 + 1) s57 Rs57 Fs57 (by omega) (by omega)
                          · refine px_lload hG dX11_finishes_150 rfl ?_
                            refine px_goto hG dX11_finishes_152 (tgt := 156) (by decide) ?_
                            refine as_48 hG dX11_finishes_156 R38 (by omega) (fun s62 qs62 Rs62 => ?_)
                            have Fs62 := pm_Fr_up (F39) qs62 (M := [(48, none)]) rfl
                            have jj63 := pm_nec qs62 (c' := 40) (r' := 0) (i' := 0) (by decide)
                            have jj64 := pm_nec qs62 (c' := 40) (r' := 0) (i' := 1) (by decide)
                            have jj65 := pm_nec qs62 (c' := 40) (r' := 0) (i' := 2) (by decide)
                            have jj66 := pm_nec qs62 (c' := 40) (r' := 0) (i' := 3) (by decide)
                            refine px_iinc hG dX11_finishes_157 (Nat.le_of_ble_eq_true rfl) rfl (L2 := [some (.inr (.inr (40, 0))), some (.inl pl), some (.inl le), some (.inl (v3_15 + x35)), some (.inl v4_16), some (.inl (v5_36 + 1)), some (.inr (.inl v6_48)), none, none]) rfl ?_
                            refine px_goto hG dX11_finishes_160 (tgt := 63) (by decide) ?_
                            refine px_weak hG (L2 := [some (.inr (.inr (40, 0))), some (.inl pl), some (.inl le), some (.inl (v3_15 + x35)), some (.inl v4_16), some (.inl (v5_36 + 1)), none, none, none]) ⟨Or.inr rfl, Or.inr rfl, Or.inr rfl, Or.inr rfl, Or.inr rfl, Or.inr rfl, Or.inl rfl, Or.inr rfl, Or.inr rfl, trivial⟩ ?_
                            exact ih40 (v5_36 + 1) s62 Rs62 Fs62 (by omega) (by omega)
                        refine px_ic_gt hG dX11_finishes_79 (tgt := 125) (by decide) ⟨by omega, by omega⟩ ⟨by omega, by omega⟩ (fun c53 => ?_) (fun c53 => ?_)
                        · refine px_weak hG (L2 := [some (.inr (.inr (40, 0))), some (.inl pl), some (.inl le), some (.inl (v3_15 + x35)), some (.inl v4_16), some (.inl v5_36), some (.inr (.inl v6_48)), none, none]) ⟨Or.inr rfl, Or.inr rfl, Or.inr rfl, Or.inr rfl, Or.inr rfl, Or.inr rfl, Or.inr rfl, Or.inr rfl, Or.inl rfl, trivial⟩ ?_
                          exact J125_54  (by omega)
                        · refine px_lload hG dX11_finishes_82 rfl ?_
                          refine px_aload_n hG dX11_finishes_84 rfl ?_
                          refine gr_40_11 hG dX11_finishes_85 fl_X11_36 R38 ?_
                          refine px_bipush hG dX11_finishes_88 (by decide) ?_
                          refine px_iload hG dX11_finishes_90 rfl ?_
                          refine px_iconst hG dX11_finishes_92 ?_
                          refine px_iadd hG dX11_finishes_93 ?_
                          refine px_imul hG dX11_finishes_94 ?_
                          refine px_iload hG dX11_finishes_95 rfl ?_
                          refine px_iadd hG dX11_finishes_97 ?_
                          refine px_iload hG dX11_finishes_98 rfl ?_
                          refine px_isub hG dX11_finishes_100 ?_
                          refine al_48 hG dX11_finishes_101 (by omega) (fun z67 ez67 => ?_)
                          refine px_aload_n hG dX11_finishes_102 rfl ?_
                          refine px_iload_n hG dX11_finishes_103 rfl ?_
                          refine px_iload hG dX11_finishes_104 rfl ?_
                          refine px_iload hG dX11_finishes_106 rfl ?_
                          refine px_isub hG dX11_finishes_108 ?_
                          refine px_isub hG dX11_finishes_109 ?_
                          refine px_iload hG dX11_finishes_110 rfl ?_
                          refine jv2 hG dX11_finishes_112 ct_X11_choose lk_X11_148 ⟨rfl, rfl⟩ (by decide) ⟨Nat.le_of_ble_eq_true rfl, Nat.le_of_ble_eq_true rfl, Nat.le_of_ble_eq_true rfl⟩ (Nat.le_of_ble_eq_true rfl) ⟨(le - (v5_36 - v8_49)), v8_49, rfl, rfl, R38, ⟨by omega, (pm_J2_fr F39 rfl J2)⟩⟩ (fun r68 t69 pr68 => ?_)
                          obtain ⟨z70, rfl, rfl⟩ := pr68 _ _ rfl
                          show G 115 [some (.inr (.inr (40, 0))), some (.inl pl), some (.inl le), some (.inl (v3_15 + x35)), some (.inl v4_16), some (.inl v5_36), some (.inr (.inl v6_48)), none, some (.inl v8_49)] [.inr (.inl z70), .inr (.inl z67), .inr (.inl v6_48)] 122 s37
                          refine px_lmul hG dX11_finishes_115 ?_
                          refine px_ladd hG dX11_finishes_116 ?_
                          refine px_lstore hG dX11_finishes_117 (Nat.le_of_ble_eq_true rfl) (L2 := [some (.inr (.inr (40, 0))), some (.inl pl), some (.inl le), some (.inl (v3_15 + x35)), some (.inl v4_16), some (.inl v5_36), some (.inr (.inl (v6_48 + (z67 * z70)))), none, some (.inl v8_49)]) rfl ?_
                          refine px_iinc hG dX11_finishes_119 (Nat.le_of_ble_eq_true rfl) rfl (L2 := [some (.inr (.inr (40, 0))), some (.inl pl), some (.inl le), some (.inl (v3_15 + x35)), some (.inl v4_16), some (.inl v5_36), some (.inr (.inl (v6_48 + (z67 * z70)))), none, some (.inl (v8_49 + 1))]) rfl ?_
                          refine px_goto hG dX11_finishes_122 (tgt := 75) (by decide) ?_
                          exact ih50 (v6_48 + (z67 * z70)) (v8_49 + 1) (by omega) (by omega)
                    exact L75 _ 0 0 (by omega) (Nat.lt_succ_self _)
              exact L63 _ 0 s17 R18 F19 (by omega) (Nat.lt_succ_self _)
        exact L44 _ 0 pl s2 R3 F4 (⟨by omega, by omega⟩) (Nat.lt_succ_self _)
      refine px_ic_gt hG dX11_finishes_8 (tgt := 41) (by decide) ⟨by omega, by omega⟩ ⟨by omega, by omega⟩ (fun c12 => ?_) (fun c12 => ?_)
      · refine px_weak hG (L2 := [some (.inr (.inr (40, 0))), some (.inl pl), some (.inl le), some (.inl 0), none, none, none, none, none]) ⟨Or.inr rfl, Or.inr rfl, Or.inr rfl, Or.inr rfl, Or.inl rfl, Or.inr rfl, Or.inr rfl, Or.inr rfl, Or.inr rfl, trivial⟩ ?_
        exact J41_13  (by omega)
      · refine px_aload_n hG dX11_finishes_11 rfl ?_
        refine gr_40_11 hG dX11_finishes_12 fl_X11_36 R3 ?_
        refine px_bipush hG dX11_finishes_15 (by decide) ?_
        refine px_iload_n hG dX11_finishes_17 rfl ?_
        refine px_iconst hG dX11_finishes_18 ?_
        refine px_iadd hG dX11_finishes_19 ?_
        refine px_imul hG dX11_finishes_20 ?_
        refine px_iload hG dX11_finishes_21 rfl ?_
        refine px_iadd hG dX11_finishes_23 ?_
        refine px_iload hG dX11_finishes_24 rfl ?_
        refine px_if_ne hG dX11_finishes_26 (tgt := 33) (by decide) ⟨by omega, by omega⟩ (fun c71 => ?_) (fun c71 => ?_)
        · refine px_lconst hG dX11_finishes_33 ?_
          show G 34 [some (.inr (.inr (40, 0))), some (.inl pl), some (.inl le), some (.inl 0), some (.inl v4_1), none, none, none, none] [.inr (.inl 0), .inl ((12 * (pl + 1)) + v4_1), .inr (.inr (48, 0))] 122 s2
          refine as_48 hG dX11_finishes_34 R3 (by omega) (fun s72 qs72 Rs72 => ?_)
          have Fs72 := pm_Fr_up (F4) qs72 (M := [(48, none)]) rfl
          have jj73 := pm_nec qs72 (c' := 40) (r' := 0) (i' := 0) (by decide)
          have jj74 := pm_nec qs72 (c' := 40) (r' := 0) (i' := 1) (by decide)
          have jj75 := pm_nec qs72 (c' := 40) (r' := 0) (i' := 2) (by decide)
          have jj76 := pm_nec qs72 (c' := 40) (r' := 0) (i' := 3) (by decide)
          refine px_iinc hG dX11_finishes_35 (Nat.le_of_ble_eq_true rfl) rfl (L2 := [some (.inr (.inr (40, 0))), some (.inl pl), some (.inl le), some (.inl 0), some (.inl (v4_1 + 1)), none, none, none, none]) rfl ?_
          refine px_goto hG dX11_finishes_38 (tgt := 5) (by decide) ?_
          exact ih5 (v4_1 + 1) s72 Rs72 Fs72 (by omega) (by omega)
        · refine px_lconst hG dX11_finishes_29 ?_
          show G 30 [some (.inr (.inr (40, 0))), some (.inl pl), some (.inl le), some (.inl 0), some (.inl v4_1), none, none, none, none] [.inr (.inl 1), .inl ((12 * (pl + 1)) + v4_1), .inr (.inr (48, 0))] 122 s2
          refine px_goto hG dX11_finishes_30 (tgt := 34) (by decide) ?_
          refine as_48 hG dX11_finishes_34 R3 (by omega) (fun s77 qs77 Rs77 => ?_)
          have Fs77 := pm_Fr_up (F4) qs77 (M := [(48, none)]) rfl
          have jj78 := pm_nec qs77 (c' := 40) (r' := 0) (i' := 0) (by decide)
          have jj79 := pm_nec qs77 (c' := 40) (r' := 0) (i' := 1) (by decide)
          have jj80 := pm_nec qs77 (c' := 40) (r' := 0) (i' := 2) (by decide)
          have jj81 := pm_nec qs77 (c' := 40) (r' := 0) (i' := 3) (by decide)
          refine px_iinc hG dX11_finishes_35 (Nat.le_of_ble_eq_true rfl) rfl (L2 := [some (.inr (.inr (40, 0))), some (.inl pl), some (.inl le), some (.inl 0), some (.inl (v4_1 + 1)), none, none, none, none]) rfl ?_
          refine px_goto hG dX11_finishes_38 (tgt := 5) (by decide) ?_
          exact ih5 (v4_1 + 1) s77 Rs77 Fs77 (by omega) (by omega)
  exact L5 _ 0 s0 R0 pm_Fr_rf (by omega) (Nat.lt_succ_self _))
def pre_X11_clearTold (as : List pm_V) (n : Nat) (σ : pm_H) : Prop := as = [.inr (.inr (40, 0))] ∧ n = 122 ∧ pm_Rng σ ∧ (pm_J2 σ)
def po_X11_clearTold (as : List pm_V) (_ : Nat) (σ : pm_H) (r : Option pm_V) (τ : pm_H) : Prop := as = [.inr (.inr (40, 0))] → r = none ∧ pm_Rng τ ∧ pm_Fr [(47, none)] σ τ ∧ (∀ i : Int, 0 ≤ i → i ≤ 11 → τ 47 0 i = 0)
set_option maxRecDepth 20000 in
set_option maxHeartbeats 4000000 in
theorem ct_X11_clearTold : pm_Ct yX11_clearTold cX11_clearTold 2 none 0 0 pre_X11_clearTold po_X11_clearTold := pm_sound (ini := false) (by decide +kernel) pk_X11_clearTold (fun h => absurd h (by decide)) (by
  rintro as n s0 ⟨rfl, rfl, R0, hpre⟩
  refine ⟨by decide, Nat.le_of_ble_eq_true rfl, fun G hG => ?_⟩
  have hG : pm_Rules (RX11, 0, 122, cX11_clearTold, -1, (fun _ => 0), false, none, po_X11_clearTold [.inr (.inr (40, 0))] 122 s0) G := hG
  show G 0 [some (.inr (.inr (40, 0))), none] [] 122 s0
  have B0 := pb_40_0 R0
  have B1 := pb_40_1 R0
  have B2 := pb_40_2 R0
  have B3 := pb_40_3 R0
  have J2 := hpre
  have JK := J2.1
  have JW := J2.2
  refine px_iconst hG dX11_clearTold_0 ?_
  refine px_istore_n hG dX11_clearTold_1 (Nat.le_of_ble_eq_true rfl) (L2 := [some (.inr (.inr (40, 0))), some (.inl 0)]) rfl ?_
  have L2 : ∀ (N : Nat) (v1_1 : Int) (s2 : pm_H), pm_Rng s2 → pm_Fr [(47, none)] s0 s2 → ((0 ≤ v1_1 ∧ v1_1 ≤ 10000) ∧ (∀ i : Int, 0 ≤ i → i < v1_1 → s2 47 0 i = 0)) → (10001 - v1_1).toNat < N → G 2 [some (.inr (.inr (40, 0))), some (.inl v1_1)] [] 122 s2 := by
    intro N
    induction N with
    | zero => intro v1_1 s2 R3 F4 inv6 hm7; exact absurd hm7 (Nat.not_lt_zero _)
    | succ N ih5 =>
      intro v1_1 s2 R3 F4 inv6 hm7
      have jj8 := F4 40 0 0 rfl
      have jj9 := F4 40 0 1 rfl
      have jj10 := F4 40 0 2 rfl
      have jj11 := F4 40 0 3 rfl
      have W := inv6.2
      refine px_iload_n hG dX11_clearTold_2 rfl ?_
      refine px_bipush hG dX11_clearTold_3 (by decide) ?_
      refine px_ic_ge hG dX11_clearTold_5 (tgt := 21) (by decide) ⟨by omega, by omega⟩ ⟨by omega, by omega⟩ (fun c12 => ?_) (fun c12 => ?_)
      · have jj13 := F4 40 0 0 rfl
        have jj14 := F4 40 0 1 rfl
        have jj15 := F4 40 0 2 rfl
        have jj16 := F4 40 0 3 rfl
        exact px_vret (st := []) hG dX11_clearTold_21 rfl rfl (fun _ => by exact ⟨rfl, R3, F4, fun i h0 h1 => W i h0 (by omega)⟩)
      · refine px_aload_n hG dX11_clearTold_8 rfl ?_
        refine gr_40_10 hG dX11_clearTold_9 fl_X11_33 R3 ?_
        refine px_iload_n hG dX11_clearTold_12 rfl ?_
        refine px_iconst hG dX11_clearTold_13 ?_
        refine as_47 hG dX11_clearTold_14 R3 (by omega) (by omega) (fun s17 qs17 Rs17 => ?_)
        have Fs17 := pm_Fr_up (F4) qs17 (M := [(47, none)]) rfl
        have jj18 := pm_nec qs17 (c' := 40) (r' := 0) (i' := 0) (by decide)
        have jj19 := pm_nec qs17 (c' := 40) (r' := 0) (i' := 1) (by decide)
        have jj20 := pm_nec qs17 (c' := 40) (r' := 0) (i' := 2) (by decide)
        have jj21 := pm_nec qs17 (c' := 40) (r' := 0) (i' := 3) (by decide)
        have E := qs17
        refine px_iinc hG dX11_clearTold_15 (Nat.le_of_ble_eq_true rfl) rfl (L2 := [some (.inr (.inr (40, 0))), some (.inl (v1_1 + 1))]) rfl ?_
        refine px_goto hG dX11_clearTold_18 (tgt := 2) (by decide) ?_
        exact ih5 (v1_1 + 1) s17 Rs17 Fs17 (⟨by omega, fun i h0 h1 => pm_zstep W E i h0 h1⟩) (by omega)
  exact L2 _ 0 s0 R0 pm_Fr_rf (⟨by omega, fun i h0 h1 => by omega⟩) (Nat.lt_succ_self _))
def pre_X11_rowsOf (as : List pm_V) (n : Nat) (σ : pm_H) : Prop := ∃ aa : Int, as = [.inr (.inr (40, 0)), .inl aa] ∧ n = 122 ∧ pm_Rng σ ∧ ((0 ≤ aa ∧ aa ≤ 10) ∧ pm_J2 σ)
def po_X11_rowsOf (as : List pm_V) (_ : Nat) (σ : pm_H) (r : Option pm_V) (τ : pm_H) : Prop := ∀ aa : Int, as = [.inr (.inr (40, 0)), .inl aa] → ∃ v : Int, r = some (.inr (.inl v)) ∧ pm_Rng τ ∧ pm_Fr [(47, none), (48, none)] σ τ
set_option maxRecDepth 20000 in
set_option maxHeartbeats 4000000 in
theorem ct_X11_rowsOf : pm_Ct yX11_rowsOf cX11_rowsOf 2 (some .long) 3 0 pre_X11_rowsOf po_X11_rowsOf := pm_sound (ini := false) (by decide +kernel) pk_X11_rowsOf (fun h => absurd h (by decide)) (by
  rintro as n s0 ⟨aa, rfl, rfl, R0, hpre⟩
  refine ⟨by decide, Nat.le_of_ble_eq_true rfl, fun G hG => ?_⟩
  have hG : pm_Rules (RX11, 3, 122, cX11_rowsOf, -1, (fun _ => 0), false, (some .long), po_X11_rowsOf [.inr (.inr (40, 0)), .inl aa] 122 s0) G := hG
  show G 0 [some (.inr (.inr (40, 0))), some (.inl aa)] [] 122 s0
  have B0 := pb_40_0 R0
  have B1 := pb_40_1 R0
  have B2 := pb_40_2 R0
  have B3 := pb_40_3 R0
  have J2 := hpre.2
  have HP := hpre.1
  have JK := J2.1
  have JW := J2.2
  refine px_aload_n hG dX11_rowsOf_0 rfl ?_
  refine jv0 hG dX11_rowsOf_1 ct_X11_clearTold lk_X11_152 ⟨rfl, rfl⟩ (by decide) ⟨Nat.le_of_ble_eq_true rfl, Nat.le_of_ble_eq_true rfl, Nat.le_of_ble_eq_true rfl⟩ (Nat.le_of_ble_eq_true rfl) ⟨rfl, rfl, R0, J2⟩ (fun r1 t3 pr1 => ?_)
  obtain ⟨rfl, Rt3, Ft3, br1⟩ := pr1 rfl
  have Ff5 := pm_Fr_mono Ft3 (M := [(47, none), (48, none)]) rfl
  have jj6 := Ft3 40 0 0 rfl
  have jj7 := Ft3 40 0 1 rfl
  have jj8 := Ft3 40 0 2 rfl
  have jj9 := Ft3 40 0 3 rfl
  show G 4 [some (.inr (.inr (40, 0))), some (.inl aa)] [] 122 t3
  refine px_aload_n hG dX11_rowsOf_4 rfl ?_
  refine px_aload_n hG dX11_rowsOf_5 rfl ?_
  refine gi_40_1 hG dX11_rowsOf_6 fl_X11_7 Rt3 (fun x10 ex10 lx10 ux10 => ?_)
  have ex10 : s0 40 0 1 = x10 := (Ff5 40 0 1 rfl).symm.trans ex10
  refine px_iload_n hG dX11_rowsOf_9 rfl ?_
  refine jv2 hG dX11_rowsOf_10 ct_X11_finishes lk_X11_155 ⟨rfl, rfl⟩ (by decide) ⟨Nat.le_of_ble_eq_true rfl, Nat.le_of_ble_eq_true rfl, Nat.le_of_ble_eq_true rfl⟩ (Nat.le_of_ble_eq_true rfl) ⟨x10, aa, rfl, rfl, Rt3, ⟨by omega, (pm_J2_fr Ff5 rfl J2)⟩⟩ (fun r11 t13 pr11 => ?_)
  obtain ⟨z14, rfl, Rt13, Ft13⟩ := pr11 _ _ rfl
  have Ff15 := pm_Fr_tr Ff5 Ft13 (M := [(47, none), (48, none)]) rfl
  have jj16 := Ft13 40 0 0 rfl
  have jj17 := Ft13 40 0 1 rfl
  have jj18 := Ft13 40 0 2 rfl
  have jj19 := Ft13 40 0 3 rfl
  show G 13 [some (.inr (.inr (40, 0))), some (.inl aa)] [.inr (.inl z14)] 122 t13
  have jj20 := Ff15 40 0 0 rfl
  have jj21 := Ff15 40 0 1 rfl
  have jj22 := Ff15 40 0 2 rfl
  have jj23 := Ff15 40 0 3 rfl
  exact px_lret (st := []) hG dX11_rowsOf_13 rfl rfl (fun aa_1 ee => by cases ee; exact ⟨_, rfl, Rt13, Ff15⟩))
def pre_X11_rows (as : List pm_V) (n : Nat) (σ : pm_H) : Prop := ∃ aa : Int, as = [.inr (.inr (40, 0)), .inl aa] ∧ n = 122 ∧ pm_Rng σ ∧ ((pm_in aa) ∧ pm_J2 σ)
def po_X11_rows (as : List pm_V) (_ : Nat) (σ : pm_H) (r : Option pm_V) (τ : pm_H) : Prop := ∀ aa : Int, as = [.inr (.inr (40, 0)), .inl aa] → ∃ v : Int, r = some (.inr (.inl v)) ∧ pm_Rng τ ∧ pm_Fr [(47, none), (48, none)] σ τ
set_option maxRecDepth 20000 in
set_option maxHeartbeats 4000000 in
theorem ct_X11_rows : pm_Ct yX11_rows cX11_rows 2 (some .long) 4 0 pre_X11_rows po_X11_rows := pm_sound (ini := false) (by decide +kernel) pk_X11_rows (fun h => absurd h (by decide)) (by
  rintro as n s0 ⟨aa, rfl, rfl, R0, hpre⟩
  refine ⟨by decide, Nat.le_of_ble_eq_true rfl, fun G hG => ?_⟩
  have hG : pm_Rules (RX11, 4, 122, cX11_rows, -1, (fun _ => 0), false, (some .long), po_X11_rows [.inr (.inr (40, 0)), .inl aa] 122 s0) G := hG
  show G 0 [some (.inr (.inr (40, 0))), some (.inl aa)] [] 122 s0
  have B0 := pb_40_0 R0
  have B1 := pb_40_1 R0
  have B2 := pb_40_2 R0
  have B3 := pb_40_3 R0
  have J2 := hpre.2
  have HP := hpre.1
  have JK := J2.1
  have JW := J2.2
  refine px_iload_n hG dX11_rows_0 rfl ?_
  refine px_i2l hG dX11_rows_1 ⟨by omega, by omega⟩ ?_
  refine px_lconst hG dX11_rows_2 ?_
  show G 3 [some (.inr (.inr (40, 0))), some (.inl aa)] [.inr (.inl 0), .inr (.inl aa)] 122 s0
  refine px_aload_n hG dX11_rows_3 rfl ?_
  refine gi_40_1 hG dX11_rows_4 fl_X11_7 R0 (fun x1 ex1 lx1 ux1 => ?_)
  refine px_i2l hG dX11_rows_7 ⟨by omega, by omega⟩ ?_
  refine js3 hG dX11_rows_8 ct_X11_in lk_X11_96 ⟨Nat.le_of_ble_eq_true rfl, Nat.le_of_ble_eq_true rfl, Nat.le_of_ble_eq_true rfl⟩ (Nat.le_of_ble_eq_true rfl) ⟨aa, 0, x1, rfl, rfl, R0, by omega⟩ (fun r2 t3 pr2 => ?_)
  obtain ⟨x4, rfl, rfl, br2⟩ := pr2 _ _ _ rfl
  show G 11 [some (.inr (.inr (40, 0))), some (.inl aa)] [.inl x4] 122 s0
  refine px_if_eq hG dX11_rows_11 (tgt := 22) (by decide) ⟨by omega, by omega⟩ (fun c5 => ?_) (fun c5 => ?_)
  · refine px_ldc2 hG dX11_rows_22 cn_X11_162 ?_
    show G 25 [some (.inr (.inr (40, 0))), some (.inl aa)] [.inr (.inl (-1))] 122 s0
    exact px_lret (st := []) hG dX11_rows_25 rfl rfl (fun aa_1 ee => by cases ee; exact ⟨_, rfl, R0, pm_Fr_rf⟩)
  · refine px_aload_n hG dX11_rows_14 rfl ?_
    refine px_iload_n hG dX11_rows_15 rfl ?_
    refine jv1 hG dX11_rows_16 ct_X11_rowsOf lk_X11_158 ⟨rfl, rfl⟩ (by decide) ⟨Nat.le_of_ble_eq_true rfl, Nat.le_of_ble_eq_true rfl, Nat.le_of_ble_eq_true rfl⟩ (Nat.le_of_ble_eq_true rfl) ⟨aa, rfl, rfl, R0, ⟨by omega, J2⟩⟩ (fun r6 t8 pr6 => ?_)
    obtain ⟨z9, rfl, Rt8, Ft8⟩ := pr6 _ rfl
    have Ff10 := pm_Fr_mono Ft8 (M := [(47, none), (48, none)]) rfl
    have jj11 := Ft8 40 0 0 rfl
    have jj12 := Ft8 40 0 1 rfl
    have jj13 := Ft8 40 0 2 rfl
    have jj14 := Ft8 40 0 3 rfl
    have k15 : t8 40 0 1 = x1 := (Ft8 40 0 1 rfl).trans ex1
    show G 19 [some (.inr (.inr (40, 0))), some (.inl aa)] [.inr (.inl z9)] 122 t8
    refine px_goto hG dX11_rows_19 (tgt := 25) (by decide) ?_
    have jj16 := Ff10 40 0 0 rfl
    have jj17 := Ff10 40 0 1 rfl
    have jj18 := Ff10 40 0 2 rfl
    have jj19 := Ff10 40 0 3 rfl
    exact px_lret (st := []) hG dX11_rows_25 rfl rfl (fun aa_1 ee => by cases ee; exact ⟨_, rfl, Rt8, Ff10⟩))
def pre_X11_isWell (as : List pm_V) (n : Nat) (σ : pm_H) : Prop := as = [.inr (.inr (40, 0))] ∧ n = 122 ∧ pm_Rng σ ∧ (pm_J2 σ)
def po_X11_isWell (as : List pm_V) (_ : Nat) (σ : pm_H) (r : Option pm_V) (τ : pm_H) : Prop := as = [.inr (.inr (40, 0))] → ∃ v : Int, r = some (.inl v) ∧ pm_Rng τ ∧ pm_Fr [(43, none), (44, none)] σ τ ∧ ((v = 0 ∨ v = 1) ∧ (v = 1 → pm_pl σ ∧ (∀ p : Int, 0 ≤ p → p ≤ σ 40 0 1 → pm_gt (σ 41 0) p (σ 40 0 3).toNat ≤ σ 40 0 1 - p)))
set_option maxRecDepth 20000 in
set_option maxHeartbeats 4000000 in
theorem ct_X11_isWell : pm_Ct yX11_isWell cX11_isWell 1 (some .boolean) 3 0 pre_X11_isWell po_X11_isWell := pm_sound (ini := false) (by decide +kernel) pk_X11_isWell (fun h => absurd h (by decide)) (by
  rintro as n s0 ⟨rfl, rfl, R0, hpre⟩
  refine ⟨by decide, Nat.le_of_ble_eq_true rfl, fun G hG => ?_⟩
  have hG : pm_Rules (RX11, 3, 122, cX11_isWell, -1, (fun _ => 0), false, (some .boolean), po_X11_isWell [.inr (.inr (40, 0))] 122 s0) G := hG
  show G 0 [some (.inr (.inr (40, 0)))] [] 122 s0
  have B0 := pb_40_0 R0
  have B1 := pb_40_1 R0
  have B2 := pb_40_2 R0
  have B3 := pb_40_3 R0
  have J2 := hpre
  have JK := J2.1
  have JW := J2.2
  refine px_aload_n hG dX11_isWell_0 rfl ?_
  refine jv0 hG dX11_isWell_1 ct_X11_isPlain lk_X11_164 ⟨rfl, rfl⟩ (by decide) ⟨Nat.le_of_ble_eq_true rfl, Nat.le_of_ble_eq_true rfl, Nat.le_of_ble_eq_true rfl⟩ (Nat.le_of_ble_eq_true rfl) ⟨rfl, rfl, R0, J2⟩ (fun r1 t2 pr1 => ?_)
  obtain ⟨x3, rfl, rfl, br1⟩ := pr1 rfl
  show G 4 [some (.inr (.inr (40, 0)))] [.inl x3] 122 s0
  have PL := br1
  refine px_if_eq hG dX11_isWell_4 (tgt := 18) (by decide) ⟨by omega, by omega⟩ (fun c4 => ?_) (fun c4 => ?_)
  · refine px_iconst hG dX11_isWell_18 ?_
    exact px_zret (st := []) hG dX11_isWell_19 rfl (by omega) rfl (fun _ => by exact ⟨_, rfl, R0, pm_Fr_rf, by first | exact ⟨by omega, fun _ => ⟨PL.2 (by omega), GD.2 (by omega) (PL.2 (by omega))⟩⟩ | exact ⟨by omega, fun h => by omega⟩⟩)
  · refine px_aload_n hG dX11_isWell_7 rfl ?_
    refine jv0 hG dX11_isWell_8 ct_X11_isGood lk_X11_139 ⟨rfl, rfl⟩ (by decide) ⟨Nat.le_of_ble_eq_true rfl, Nat.le_of_ble_eq_true rfl, Nat.le_of_ble_eq_true rfl⟩ (Nat.le_of_ble_eq_true rfl) ⟨rfl, rfl, R0, J2⟩ (fun r5 t7 pr5 => ?_)
    obtain ⟨x8, rfl, Rt7, Ft7, br5⟩ := pr5 rfl
    have Ff9 := pm_Fr_mono Ft7 (M := [(43, none), (44, none)]) rfl
    have jj10 := Ft7 40 0 0 rfl
    have jj11 := Ft7 40 0 1 rfl
    have jj12 := Ft7 40 0 2 rfl
    have jj13 := Ft7 40 0 3 rfl
    show G 11 [some (.inr (.inr (40, 0)))] [.inl x8] 122 t7
    have GD := br5
    refine px_if_eq hG dX11_isWell_11 (tgt := 18) (by decide) ⟨by omega, by omega⟩ (fun c14 => ?_) (fun c14 => ?_)
    · refine px_iconst hG dX11_isWell_18 ?_
      have jj15 := Ff9 40 0 0 rfl
      have jj16 := Ff9 40 0 1 rfl
      have jj17 := Ff9 40 0 2 rfl
      have jj18 := Ff9 40 0 3 rfl
      exact px_zret (st := []) hG dX11_isWell_19 rfl (by omega) rfl (fun _ => by exact ⟨_, rfl, Rt7, Ff9, by first | exact ⟨by omega, fun _ => ⟨PL.2 (by omega), GD.2 (by omega) (PL.2 (by omega))⟩⟩ | exact ⟨by omega, fun h => by omega⟩⟩)
    · refine px_iconst hG dX11_isWell_14 ?_
      refine px_goto hG dX11_isWell_15 (tgt := 19) (by decide) ?_
      have jj19 := Ff9 40 0 0 rfl
      have jj20 := Ff9 40 0 1 rfl
      have jj21 := Ff9 40 0 2 rfl
      have jj22 := Ff9 40 0 3 rfl
      exact px_zret (st := []) hG dX11_isWell_19 rfl (by omega) rfl (fun _ => by exact ⟨_, rfl, Rt7, Ff9, by first | exact ⟨by omega, fun _ => ⟨PL.2 (by omega), GD.2 (by omega) (PL.2 (by omega))⟩⟩ | exact ⟨by omega, fun h => by omega⟩⟩))
