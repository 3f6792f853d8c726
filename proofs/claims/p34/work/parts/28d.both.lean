/-! ===== the model: both ===== -/
theorem pm_oc_full {o : Int → Int} {p : Int} {k : Nat} (h0 : 0 ≤ p) (h : ∀ q : Int, p < q → q ≤ k → o q ≠ 0) : (k : Int) - p ≤ pm_oc o p k := by
  induction k with
  | zero => simp only [pm_oc]; omega
  | succ k ih =>
    have a := ih (fun q x y => h q x (by omega))
    have n := pm_oc_nn o p k
    simp only [pm_oc]
    by_cases z : p < (k : Int) + 1
    · rw [if_pos ⟨z, h _ z (by omega)⟩]
      omega
    · rw [if_neg (fun w => z w.1)]
      omega
def pm_I2 (s : pm_H) (f : Int → Int) (n : Int) (k : Nat) : Prop := ∀ p : Int, 0 ≤ p → p ≤ n → (p = 0 ∨ s 44 0 p = 0) → pm_oc (s 44 0) p n.toNat ≤ pm_gt f p k
theorem pm_I2_0 {s : pm_H} {f : Int → Int} {n : Int} {k : Nat} (h : ∀ q : Int, 1 ≤ q → q ≤ n → s 44 0 q = 0) : pm_I2 s f n k := fun p a b _ => by
  have e : pm_oc (s 44 0) p n.toNat = pm_oc (fun _ => 0) p n.toNat := pm_oc_cg (fun i x y => h i x (by omega))
  have z : ∀ k : Nat, pm_oc (fun _ => 0) p k = 0 := fun k => by
    induction k with
    | zero => rfl
    | succ k ih =>
      simp only [pm_oc]
      rw [ih, if_neg (fun w => w.2 rfl)]
      rfl
  rw [e, z]
  exact pm_gt_nn _ _ _
theorem pm_find {o : Int → Int} {n : Int} (k : Nat) : (∀ q : Int, (k : Int) < q → q ≤ n → o q ≠ 0) → ∃ p : Int, 0 ≤ p ∧ p ≤ k ∧ (p = 0 ∨ o p = 0) ∧ ∀ q : Int, p < q → q ≤ n → o q ≠ 0 := by
  induction k with
  | zero => intro h; exact ⟨0, by omega, by omega, Or.inl rfl, h⟩
  | succ k ih =>
    intro h
    by_cases z : o ((k : Int) + 1) = 0
    · exact ⟨(k : Int) + 1, by omega, by omega, Or.inr z, h⟩
    · obtain ⟨p, p1, p2, p3, p4⟩ := ih (fun q a b => by
        by_cases y : q = (k : Int) + 1
        · rw [y]
          exact z
        · exact h q (by omega) b)
      exact ⟨p, p1, by omega, p3, p4⟩
theorem pm_prk {s : pm_H} {f : Int → Int} {n c w v K : Int} (I : pm_I2 s f n (c - 1).toNat) (PG : ∀ p : Int, 0 ≤ p → p ≤ n → pm_gt f p K.toNat ≤ n - p) (hw : f c = w) (w1 : 1 ≤ w) (w2 : w ≤ n) (c1 : 1 ≤ c ∧ c ≤ K) (hv : 0 ≤ v) (h0 : v = 0 → ∀ q : Int, w ≤ q → q ≤ n → s 44 0 q ≠ 0) : 1 ≤ v := by
  by_cases z : v = 0
  · exfalso
    obtain ⟨p, p1, p2, p3, p4⟩ := pm_find (o := s 44 0) (n := n) (w - 1).toNat (fun q a b => h0 z q (by omega) b)
    have a := pm_oc_full (o := s 44 0) (k := n.toNat) p1 (fun q x y => p4 q x (by omega))
    have b := I p p1 (by omega) p3
    have d := pm_gt_s f p c1.1
    rw [if_pos (by omega)] at d
    have e := pm_gt_mono (f := f) (p := p) (a := (c + 1 - 1).toNat) (K.toNat - (c + 1 - 1).toNat)
    rw [show (c + 1 - 1).toNat + (K.toNat - (c + 1 - 1).toNat) = K.toNat by omega] at e
    have g := PG p p1 (by omega)
    omega
  · omega
def pm_gI (s : pm_H) (f : Int → Int) (n c p i : Int) : Prop := pm_o43 s c ∧ s 43 0 c = p ∧ ((i = 0 ∧ s 44 0 p = 0 ∧ (∀ q : Int, f c ≤ q → q < p → s 44 0 q ≠ 0) ∧ pm_I2 s f n (c - 1).toNat) ∨ (i = 1 ∧ pm_I2 s f n (c + 1 - 1).toNat))
theorem pm_gI_0 {s s' : pm_H} {f : Int → Int} {n c p x w : Int} (O1 : pm_o43 s c) (O2 : pm_I2 s f n (c - 1).toNat) (PZ : s 44 0 p = 0) (FF : ∀ q : Int, w ≤ q → q < p → s 44 0 q ≠ 0) (hw : f c = w) (e : s' = pm_up s 43 0 c x) (hx : x = p) (_ : 1 ≤ c) (_ : 1 ≤ p) : pm_gI s' f n c p 0 := by
  have e4 : s' 44 0 = s 44 0 := funext fun i => pm_nec e (by decide)
  refine ⟨fun j a b => by rw [pm_nei e (by omega)]; exact O1 j a b, by rw [pm_at e, hx], Or.inl ⟨rfl, by rw [e4]; exact PZ, by rw [e4, hw]; exact FF, ?_⟩⟩
  unfold pm_I2
  rw [e4]
  exact O2
theorem pm_gI_s {s s' : pm_H} {f : Int → Int} {n c p i q : Int} (U : pm_gI s f n c p i) (e : s' = pm_up s 44 0 q c) (hq : q = p) (hp : 1 ≤ p ∧ p ≤ n) (hc : 1 ≤ c) (hi : i = 0) (hf : 1 ≤ f c) : pm_gI s' f n c p (i + 1) := by
  subst hi
  subst hq
  obtain ⟨u1, u2, ⟨_, u3, u4, u5⟩ | ⟨u3, _⟩⟩ := U
  · refine ⟨fun j a b => by rw [pm_nec e (by decide)]; exact u1 j a b, by rw [pm_nec e (by decide)]; exact u2, Or.inr ⟨rfl, fun r r0 r1 r2 => ?_⟩⟩
    have rq : r ≠ q := fun z => by
      rcases r2 with r2 | r2
      · omega
      · rw [z, pm_at e] at r2
        omega
    have a := u5 r r0 r1 (by
      rcases r2 with r2 | r2
      · exact Or.inl r2
      · rw [pm_nei e rq] at r2
        exact Or.inr r2)
    rw [pm_oc_up (o := s 44 0) (o' := s' 44 0) (q := q) hp.1 (by omega) u3 (by rw [pm_at e]; omega) (fun i z => pm_nei e z), pm_gt_s f r hc]
    by_cases z : r < q
    · have y : r < f c := by
        by_cases y : r < f c
        · exact y
        · have t := u4 r (by omega) z
          rcases r2 with r2 | r2
          · omega
          · rw [pm_nei e rq] at r2
            exact absurd r2 t
      rw [if_pos z, if_pos y]
      omega
    · rw [if_neg z]
      split <;> omega
  · omega
theorem pm_gI_e {s : pm_H} {f : Int → Int} {n c p i : Int} (U : pm_gI s f n c p i) (hp : 1 ≤ p) : pm_o43 s (c + 1) := fun j a b => by
  by_cases z : j = c
  · subst z
    rw [U.2.1]
    exact hp
  · exact U.1 j a (by omega)
theorem pm_gI_c {s : pm_H} {f : Int → Int} {n c p i : Int} (U : pm_gI s f n c p i) (hi : i ≠ 0) : pm_I2 s f n (c + 1 - 1).toNat := by
  obtain ⟨_, _, ⟨u3, _⟩ | ⟨_, u3⟩⟩ := U
  · exact absurd u3 hi
  · exact u3
theorem pm_od_s {s0 s s' : pm_H} {v n k : Int} (U : ∀ x : Int, v < x → x ≤ k → s0 41 0 x = n ∧ s 41 0 x = 1) (e : s' = pm_up s 41 0 v 1) (h : s0 41 0 v = n) : ∀ x : Int, v + -1 < x → x ≤ k → s0 41 0 x = n ∧ s' 41 0 x = 1 := fun x a b => by
  by_cases z : x = v
  · rw [z]
    exact ⟨h, pm_at e⟩
  · rw [pm_nei e z]
    exact U x (by omega) b
theorem pm_od_e {s0 s s' : pm_H} {v n k x : Int} (U3 : ∀ x : Int, x ≤ v → s 41 0 x = s0 41 0 x) (U4 : ∀ x : Int, v < x → x ≤ k → s0 41 0 x = n ∧ s 41 0 x = 1) (e : s' = pm_up s 41 0 v (x + 1)) (hx : s 41 0 v = x) (hk : k = n) (h1 : 1 ≤ v) (h2 : v ≤ k) (h3 : x ≠ n) : pm_OD n (s0 41 0) (s' 41 0) := by
  have h4 := U3 v (Int.le_refl _)
  refine ⟨v, h1, by omega, by omega, fun y a b => (U4 y a (by omega)).1, fun i a b => ?_⟩
  by_cases z : i < v
  · rw [if_pos z, pm_nei e (by omega)]
    exact U3 i (by omega)
  · rw [if_neg z]
    by_cases y : i = v
    · rw [if_pos y, y, pm_at e]
      omega
    · rw [if_neg y, pm_nei e y]
      exact (U4 i (by omega) (by omega)).2
theorem pm_hst8 {s s1 s2 : pm_H} {j v c : Int} (E1 : s1 = pm_up s 57 0 (j + 1) c) (E2 : s2 = pm_up s1 58 0 (j + 1) (j + 1 - v)) (h : ∀ q : Int, 1 ≤ q → q ≤ j → 0 ≤ s 58 0 q ∧ s 58 0 q ≤ q - 1) (h1 : v ≤ j + 1) (h2 : 1 ≤ v) : ∀ q : Int, 1 ≤ q → q ≤ j + 1 → 0 ≤ s2 58 0 q ∧ s2 58 0 q ≤ q - 1 := fun q a b => by
  by_cases z : q = j + 1
  · rw [z, pm_at E2]
    omega
  · rw [pm_nei E2 z, pm_nec E1 (by decide)]
    exact h q a (by omega)

def pre_X11_adde (as : List pm_V) (n : Nat) (σ : pm_H) : Prop := ∃ w : Int, as = [.inr (.inr (40, 0)), .inl w] ∧ n = 122 ∧ pm_Rng σ ∧ ((1 ≤ w ∧ w ≤ σ 40 0 1 ∧ σ 40 0 3 + 1 ≤ σ 40 0 1) ∧ pm_J2 σ)
def po_X11_adde (as : List pm_V) (_ : Nat) (σ : pm_H) (r : Option pm_V) (τ : pm_H) : Prop := ∀ w : Int, as = [.inr (.inr (40, 0)), .inl w] → r = none ∧ pm_Rng τ ∧ pm_Fr [(40, some 3), (41, none), (42, none)] σ τ ∧ (pm_J2 τ ∧ (τ 40 0 3 = σ 40 0 3 + 1 ∧ τ 41 0 (σ 40 0 3 + 1) = w ∧ τ 42 0 (σ 40 0 3 + 1) = 1 ∧ ∀ i : Int, i ≠ σ 40 0 3 + 1 → τ 41 0 i = σ 41 0 i ∧ τ 42 0 i = σ 42 0 i))
set_option maxRecDepth 20000 in
set_option maxHeartbeats 4000000 in
theorem ct_X11_adde : pm_Ct yX11_add cX11_add 2 none 0 0 pre_X11_adde po_X11_adde := pm_sound (ini := false) (by decide +kernel) pk_X11_add (fun h => absurd h (by decide)) (by
  rintro as n s0 ⟨w, rfl, rfl, R0, hpre⟩
  refine ⟨by decide, Nat.le_of_ble_eq_true rfl, fun G hG => ?_⟩
  have hG : pm_Rules (RX11, 0, 122, cX11_add, -1, (fun _ => 0), false, none, po_X11_adde [.inr (.inr (40, 0)), .inl w] 122 s0) G := hG
  show G 0 [some (.inr (.inr (40, 0))), some (.inl w)] [] 122 s0
  have B0 := pb_40_0 R0
  have B1 := pb_40_1 R0
  have B2 := pb_40_2 R0
  have B3 := pb_40_3 R0
  have J2 := hpre.2
  have HP := hpre.1
  have JK := J2.1
  have JW := J2.2
  refine px_aload_n hG dX11_add_0 rfl ?_
  refine px_dupa hG dX11_add_1 ?_
  refine gi_40_3 hG dX11_add_2 fl_X11_110 R0 (fun x1 ex1 lx1 ux1 => ?_)
  refine px_iconst hG dX11_add_5 ?_
  refine px_iadd hG dX11_add_6 ?_
  refine pi_40_3 hG dX11_add_7 fl_X11_110 R0 (by omega) (fun s2 qs2 Rs2 => ?_)
  have Fs2 := pm_Fr_up ((pm_Fr_rf : pm_Fr [(40, some 3), (41, none), (42, none)] s0 s0)) qs2 (M := [(40, some 3), (41, none), (42, none)]) rfl
  have k3 : s2 40 0 3 = x1 + 1 := pm_at qs2
  have E1 := qs2
  refine px_aload_n hG dX11_add_10 rfl ?_
  refine gr_40_4 hG dX11_add_11 fl_X11_13 Rs2 ?_
  refine px_aload_n hG dX11_add_14 rfl ?_
  refine gi_40_3 hG dX11_add_15 fl_X11_110 Rs2 (fun x4 ex4 lx4 ux4 => ?_)
  have I1 : s0 40 0 3 + 1 = x4 := by omega
  refine px_iload_n hG dX11_add_18 rfl ?_
  refine as_41 hG dX11_add_19 Rs2 (by omega) (by omega) (fun s5 qs5 Rs5 => ?_)
  have Fs5 := pm_Fr_up (Fs2) qs5 (M := [(40, some 3), (41, none), (42, none)]) rfl
  have k6 : s5 40 0 3 = x1 + 1 := (pm_nec qs5 (by decide)).trans k3
  have jj7 := pm_nec qs5 (c' := 40) (r' := 0) (i' := 0) (by decide)
  have jj8 := pm_nec qs5 (c' := 40) (r' := 0) (i' := 1) (by decide)
  have jj9 := pm_nec qs5 (c' := 40) (r' := 0) (i' := 2) (by decide)
  have jj10 := pm_nec qs5 (c' := 40) (r' := 0) (i' := 3) (by decide)
  have E2 := qs5
  refine px_aload_n hG dX11_add_20 rfl ?_
  refine gr_40_5 hG dX11_add_21 fl_X11_17 Rs5 ?_
  refine px_aload_n hG dX11_add_24 rfl ?_
  refine gi_40_3 hG dX11_add_25 fl_X11_110 Rs5 (fun x11 ex11 lx11 ux11 => ?_)
  have I2 : s0 40 0 3 + 1 = x11 := by omega
  refine px_iconst hG dX11_add_28 ?_
  refine as_42 hG dX11_add_29 Rs5 (by omega) (by omega) (fun s12 qs12 Rs12 => ?_)
  have Fs12 := pm_Fr_up (Fs5) qs12 (M := [(40, some 3), (41, none), (42, none)]) rfl
  have k13 : s12 40 0 3 = x1 + 1 := (pm_nec qs12 (by decide)).trans k6
  have jj14 := pm_nec qs12 (c' := 40) (r' := 0) (i' := 0) (by decide)
  have jj15 := pm_nec qs12 (c' := 40) (r' := 0) (i' := 1) (by decide)
  have jj16 := pm_nec qs12 (c' := 40) (r' := 0) (i' := 2) (by decide)
  have jj17 := pm_nec qs12 (c' := 40) (r' := 0) (i' := 3) (by decide)
  have E3 := qs12
  rw [← I1] at E2
  rw [← I2] at E3
  have jj18 := Fs12 40 0 0 rfl
  have jj19 := Fs12 40 0 1 rfl
  have jj20 := Fs12 40 0 2 rfl
  have JN := pm_J2_add J2 E1 E2 E3 (by omega) (by omega) (by omega) (by omega)
  have A1 := (pm_nec E3 (c' := 41) (r' := 0) (i' := s0 40 0 3 + 1) (by decide)).trans (pm_at E2)
  have A2 := pm_at E3
  have A3 : ∀ i : Int, i ≠ s0 40 0 3 + 1 → s12 41 0 i = s0 41 0 i ∧ s12 42 0 i = s0 42 0 i := fun i z => ⟨(pm_nec E3 (by decide)).trans ((pm_nei E2 z).trans (pm_nec E1 (by decide))), (pm_nei E3 z).trans ((pm_nec E2 (by decide)).trans (pm_nec E1 (by decide)))⟩
  exact px_vret (st := []) hG dX11_add_30 rfl rfl (fun w_1 ee => by cases ee; exact ⟨rfl, Rs12, Fs12, ⟨JN, by omega, A1, A2, A3⟩⟩))
def pre_X11_placeForf (as : List pm_V) (n : Nat) (σ : pm_H) : Prop := ∃ w : Int, as = [.inr (.inr (40, 0)), .inl w] ∧ n = 122 ∧ pm_Rng σ ∧ ((1 ≤ w ∧ w ≤ σ 40 0 1) ∧ pm_J2 σ)
def po_X11_placeForf (as : List pm_V) (_ : Nat) (σ : pm_H) (r : Option pm_V) (τ : pm_H) : Prop := ∀ w : Int, as = [.inr (.inr (40, 0)), .inl w] → ∃ v : Int, r = some (.inl v) ∧ σ = τ ∧ (0 ≤ v ∧ v ≤ σ 40 0 1 ∧ (σ 40 0 0 = 0 → 1 ≤ v → w ≤ v ∧ σ 44 0 v = 0 ∧ ∀ q : Int, w ≤ q → q < v → σ 44 0 q ≠ 0) ∧ (σ 40 0 0 = 0 → v = 0 → ∀ q : Int, w ≤ q → q ≤ σ 40 0 1 → σ 44 0 q ≠ 0))
set_option maxRecDepth 20000 in
set_option maxHeartbeats 4000000 in
theorem ct_X11_placeForf : pm_Ct yX11_placeFor cX11_placeFor 4 (some .int) 0 0 pre_X11_placeForf po_X11_placeForf := pm_sound (ini := false) (by decide +kernel) pk_X11_placeFor (fun h => absurd h (by decide)) (by
  rintro as n s0 ⟨w, rfl, rfl, R0, hpre⟩
  refine ⟨by decide, Nat.le_of_ble_eq_true rfl, fun G hG => ?_⟩
  have hG : pm_Rules (RX11, 0, 122, cX11_placeFor, -1, (fun _ => 0), false, (some .int), po_X11_placeForf [.inr (.inr (40, 0)), .inl w] 122 s0) G := hG
  show G 0 [some (.inr (.inr (40, 0))), some (.inl w), none, none] [] 122 s0
  have B0 := pb_40_0 R0
  have B1 := pb_40_1 R0
  have B2 := pb_40_2 R0
  have B3 := pb_40_3 R0
  have J2 := hpre.2
  have HP := hpre.1
  have JK := J2.1
  have JW := J2.2
  refine px_aload_n hG dX11_placeFor_0 rfl ?_
  refine gr_40_7 hG dX11_placeFor_1 fl_X11_23 R0 ?_
  refine px_iload_n hG dX11_placeFor_4 rfl ?_
  refine al_44 hG dX11_placeFor_5 R0 (by omega) (fun x1 ex1 lx1 ux1 => ?_)
  refine px_if_eq hG dX11_placeFor_6 (tgt := 53) (by decide) ⟨by omega, by omega⟩ (fun c2 => ?_) (fun c2 => ?_)
  · refine px_iconst hG dX11_placeFor_53 ?_
    refine px_istore_n hG dX11_placeFor_54 (Nat.le_of_ble_eq_true rfl) (L2 := [some (.inr (.inr (40, 0))), some (.inl w), some (.inl 0), none]) rfl ?_
    have L55 : ∀ (N : Nat) (v2_3 : Int), ((0 ≤ v2_3 ∧ v2_3 ≤ 10000) ∧ (s0 40 0 0 = 0 → ∀ q : Int, w ≤ q → q < w + v2_3 → q ≤ s0 40 0 1 → s0 44 0 q ≠ 0)) → (10001 - v2_3).toNat < N → G 55 [some (.inr (.inr (40, 0))), some (.inl w), some (.inl v2_3), none] [] 122 s0 := by
      intro N
      induction N with
      | zero => intro v2_3 inv5 hm6; exact absurd hm6 (Nat.not_lt_zero _)
      | succ N ih4 =>
        intro v2_3 inv5 hm6
        have W := inv5.2
        refine px_iload_n hG dX11_placeFor_55 rfl ?_
        refine px_aload_n hG dX11_placeFor_56 rfl ?_
        refine gi_40_1 hG dX11_placeFor_57 fl_X11_7 R0 (fun x7 ex7 lx7 ux7 => ?_)
        refine px_ic_ge hG dX11_placeFor_60 (tgt := 121) (by decide) ⟨by omega, by omega⟩ ⟨by omega, by omega⟩ (fun c8 => ?_) (fun c8 => ?_)
        · refine px_iconst hG dX11_placeFor_121 ?_
          exact px_iret (st := []) hG dX11_placeFor_122 rfl rfl (fun w_1 ee => by cases ee; exact ⟨_, rfl, rfl, ⟨by omega, by omega, fun h h1 => absurd h1 (by decide), fun h _ q a b => W h q a (by omega) b⟩⟩)
        · refine px_iload_n hG dX11_placeFor_63 rfl ?_
          refine px_iload_n hG dX11_placeFor_64 rfl ?_
          refine px_iadd hG dX11_placeFor_65 ?_
          refine px_istore_n hG dX11_placeFor_66 (Nat.le_of_ble_eq_true rfl) (L2 := [some (.inr (.inr (40, 0))), some (.inl w), some (.inl v2_3), some (.inl (w + v2_3))]) rfl ?_
          refine px_iload_n hG dX11_placeFor_67 rfl ?_
          refine px_aload_n hG dX11_placeFor_68 rfl ?_
          refine gi_40_1 hG dX11_placeFor_69 fl_X11_7 R0 (fun x9 ex9 lx9 ux9 => ?_)
          refine px_ic_le hG dX11_placeFor_72 (tgt := 85) (by decide) ⟨by omega, by omega⟩ ⟨by omega, by omega⟩ (fun c10 => ?_) (fun c10 => ?_)
          · refine px_iload_n hG dX11_placeFor_85 rfl ?_
            refine px_aload_n hG dX11_placeFor_86 rfl ?_
            refine gi_40_1 hG dX11_placeFor_87 fl_X11_7 R0 (fun x11 ex11 lx11 ux11 => ?_)
            have J103_14 : ∀ (j13 : Int), (1 ≤ j13 ∧ j13 ≤ s0 40 0 1 ∧ (s0 40 0 0 = 0 → j13 = w + v2_3)) → G 103 [some (.inr (.inr (40, 0))), some (.inl w), some (.inl v2_3), none] [.inl j13] 122 s0 := by
              intro j13 inv15
              refine px_istore_n hG dX11_placeFor_103 (Nat.le_of_ble_eq_true rfl) (L2 := [some (.inr (.inr (40, 0))), some (.inl w), some (.inl v2_3), some (.inl j13)]) rfl ?_
              refine px_aload_n hG dX11_placeFor_104 rfl ?_
              refine gr_40_7 hG dX11_placeFor_105 fl_X11_23 R0 ?_
              refine px_iload_n hG dX11_placeFor_108 rfl ?_
              refine al_44 hG dX11_placeFor_109 R0 (by omega) (fun x16 ex16 lx16 ux16 => ?_)
              have X9 := ex16
              have XW : s0 40 0 0 = 0 → s0 44 0 (w + v2_3) = x16 := fun h => by rw [← (show j13 = w + v2_3 by omega)]; exact X9
              refine px_if_ne hG dX11_placeFor_110 (tgt := 115) (by decide) ⟨by omega, by omega⟩ (fun c17 => ?_) (fun c17 => ?_)
              · refine px_iinc hG dX11_placeFor_115 (Nat.le_of_ble_eq_true rfl) rfl (L2 := [some (.inr (.inr (40, 0))), some (.inl w), some (.inl (v2_3 + 1)), some (.inl j13)]) rfl ?_
                refine px_goto hG dX11_placeFor_118 (tgt := 55) (by decide) ?_
                refine px_weak hG (L2 := [some (.inr (.inr (40, 0))), some (.inl w), some (.inl (v2_3 + 1)), none]) ⟨Or.inr rfl, Or.inr rfl, Or.inr rfl, Or.inl rfl, trivial⟩ ?_
                exact ih4 (v2_3 + 1) (⟨by omega, fun h => pm_occ_s (W h) (by rw [XW h]; omega)⟩) (by omega)
              · refine px_iload_n hG dX11_placeFor_113 rfl ?_
                exact px_iret (st := []) hG dX11_placeFor_114 rfl rfl (fun w_1 ee => by cases ee; exact ⟨_, rfl, rfl, ⟨by omega, by omega, fun h h1 => ⟨by omega, by omega, fun q a b => W h q a (by omega) (by omega)⟩, fun h h1 => by omega⟩⟩)
            refine px_ic_le hG dX11_placeFor_90 (tgt := 102) (by decide) ⟨by omega, by omega⟩ ⟨by omega, by omega⟩ (fun c12 => ?_) (fun c12 => ?_)
            · refine px_iload_n hG dX11_placeFor_102 rfl ?_
              refine px_weak hG (L2 := [some (.inr (.inr (40, 0))), some (.inl w), some (.inl v2_3), none]) ⟨Or.inr rfl, Or.inr rfl, Or.inr rfl, Or.inl rfl, trivial⟩ ?_
              exact J103_14 (w + v2_3) (by omega)
            · refine px_iload_n hG dX11_placeFor_93 rfl ?_
              refine px_aload_n hG dX11_placeFor_94 rfl ?_
              refine gi_40_1 hG dX11_placeFor_95 fl_X11_7 R0 (fun x18 ex18 lx18 ux18 => ?_)
              refine px_isub hG dX11_placeFor_98 ?_
              refine px_goto hG dX11_placeFor_99 (tgt := 103) (by decide) ?_
              refine px_weak hG (L2 := [some (.inr (.inr (40, 0))), some (.inl w), some (.inl v2_3), none]) ⟨Or.inr rfl, Or.inr rfl, Or.inr rfl, Or.inl rfl, trivial⟩ ?_
              exact J103_14 ((w + v2_3) - x18) (by omega)
          · refine px_aload_n hG dX11_placeFor_75 rfl ?_
            refine gi_40_0 hG dX11_placeFor_76 fl_X11_104 R0 (fun x19 ex19 lx19 ux19 => ?_)
            refine px_iconst hG dX11_placeFor_79 ?_
            refine px_ic_eq hG dX11_placeFor_80 (tgt := 85) (by decide) ⟨by omega, by omega⟩ ⟨by omega, by omega⟩ (fun c20 => ?_) (fun c20 => ?_)
            · refine px_iload_n hG dX11_placeFor_85 rfl ?_
              refine px_aload_n hG dX11_placeFor_86 rfl ?_
              refine gi_40_1 hG dX11_placeFor_87 fl_X11_7 R0 (fun x21 ex21 lx21 ux21 => ?_)
              have J103_24 : ∀ (j23 : Int), (1 ≤ j23 ∧ j23 ≤ s0 40 0 1 ∧ (s0 40 0 0 = 0 → j23 = w + v2_3)) → G 103 [some (.inr (.inr (40, 0))), some (.inl w), some (.inl v2_3), none] [.inl j23] 122 s0 := by
                intro j23 inv25
                refine px_istore_n hG dX11_placeFor_103 (Nat.le_of_ble_eq_true rfl) (L2 := [some (.inr (.inr (40, 0))), some (.inl w), some (.inl v2_3), some (.inl j23)]) rfl ?_
                refine px_aload_n hG dX11_placeFor_104 rfl ?_
                refine gr_40_7 hG dX11_placeFor_105 fl_X11_23 R0 ?_
                refine px_iload_n hG dX11_placeFor_108 rfl ?_
                refine al_44 hG dX11_placeFor_109 R0 (by omega) (fun x26 ex26 lx26 ux26 => ?_)
                have X9 := ex26
                have XW : s0 40 0 0 = 0 → s0 44 0 (w + v2_3) = x26 := fun h => by rw [← (show j23 = w + v2_3 by omega)]; exact X9
                refine px_if_ne hG dX11_placeFor_110 (tgt := 115) (by decide) ⟨by omega, by omega⟩ (fun c27 => ?_) (fun c27 => ?_)
                · refine px_iinc hG dX11_placeFor_115 (Nat.le_of_ble_eq_true rfl) rfl (L2 := [some (.inr (.inr (40, 0))), some (.inl w), some (.inl (v2_3 + 1)), some (.inl j23)]) rfl ?_
                  refine px_goto hG dX11_placeFor_118 (tgt := 55) (by decide) ?_
                  refine px_weak hG (L2 := [some (.inr (.inr (40, 0))), some (.inl w), some (.inl (v2_3 + 1)), none]) ⟨Or.inr rfl, Or.inr rfl, Or.inr rfl, Or.inl rfl, trivial⟩ ?_
                  exact ih4 (v2_3 + 1) (⟨by omega, fun h => pm_occ_s (W h) (by rw [XW h]; omega)⟩) (by omega)
                · refine px_iload_n hG dX11_placeFor_113 rfl ?_
                  exact px_iret (st := []) hG dX11_placeFor_114 rfl rfl (fun w_1 ee => by cases ee; exact ⟨_, rfl, rfl, ⟨by omega, by omega, fun h h1 => ⟨by omega, by omega, fun q a b => W h q a (by omega) (by omega)⟩, fun h h1 => by omega⟩⟩)
              refine px_ic_le hG dX11_placeFor_90 (tgt := 102) (by decide) ⟨by omega, by omega⟩ ⟨by omega, by omega⟩ (fun c22 => ?_) (fun c22 => ?_)
              · refine px_iload_n hG dX11_placeFor_102 rfl ?_
                refine px_weak hG (L2 := [some (.inr (.inr (40, 0))), some (.inl w), some (.inl v2_3), none]) ⟨Or.inr rfl, Or.inr rfl, Or.inr rfl, Or.inl rfl, trivial⟩ ?_
                exact J103_24 (w + v2_3) (by omega)
              · refine px_iload_n hG dX11_placeFor_93 rfl ?_
                refine px_aload_n hG dX11_placeFor_94 rfl ?_
                refine gi_40_1 hG dX11_placeFor_95 fl_X11_7 R0 (fun x28 ex28 lx28 ux28 => ?_)
                refine px_isub hG dX11_placeFor_98 ?_
                refine px_goto hG dX11_placeFor_99 (tgt := 103) (by decide) ?_
                refine px_weak hG (L2 := [some (.inr (.inr (40, 0))), some (.inl w), some (.inl v2_3), none]) ⟨Or.inr rfl, Or.inr rfl, Or.inr rfl, Or.inl rfl, trivial⟩ ?_
                exact J103_24 ((w + v2_3) - x28) (by omega)
            · refine px_iconst hG dX11_placeFor_83 ?_
              exact px_iret (st := []) hG dX11_placeFor_84 rfl rfl (fun w_1 ee => by cases ee; exact ⟨_, rfl, rfl, ⟨by omega, by omega, fun h h1 => absurd h1 (by decide), fun h _ q a b => W h q a (by omega) b⟩⟩)
    exact L55 _ 0 (⟨by omega, fun h q a b c => by omega⟩) (Nat.lt_succ_self _)
  · refine px_aload_n hG dX11_placeFor_9 rfl ?_
    refine gi_40_0 hG dX11_placeFor_10 fl_X11_104 R0 (fun x29 ex29 lx29 ux29 => ?_)
    refine px_iconst hG dX11_placeFor_13 ?_
    refine px_ic_ne hG dX11_placeFor_14 (tgt := 53) (by decide) ⟨by omega, by omega⟩ ⟨by omega, by omega⟩ (fun c30 => ?_) (fun c30 => ?_)
    · refine px_iconst hG dX11_placeFor_53 ?_
      refine px_istore_n hG dX11_placeFor_54 (Nat.le_of_ble_eq_true rfl) (L2 := [some (.inr (.inr (40, 0))), some (.inl w), some (.inl 0), none]) rfl ?_
      have L32 : ∀ (N : Nat) (v2_31 : Int), ((0 ≤ v2_31 ∧ v2_31 ≤ 10000) ∧ (s0 40 0 0 = 0 → ∀ q : Int, w ≤ q → q < w + v2_31 → q ≤ s0 40 0 1 → s0 44 0 q ≠ 0)) → (10001 - v2_31).toNat < N → G 55 [some (.inr (.inr (40, 0))), some (.inl w), some (.inl v2_31), none] [] 122 s0 := by
        intro N
        induction N with
        | zero => intro v2_31 inv34 hm35; exact absurd hm35 (Nat.not_lt_zero _)
        | succ N ih33 =>
          intro v2_31 inv34 hm35
          have W := inv34.2
          refine px_iload_n hG dX11_placeFor_55 rfl ?_
          refine px_aload_n hG dX11_placeFor_56 rfl ?_
          refine gi_40_1 hG dX11_placeFor_57 fl_X11_7 R0 (fun x36 ex36 lx36 ux36 => ?_)
          refine px_ic_ge hG dX11_placeFor_60 (tgt := 121) (by decide) ⟨by omega, by omega⟩ ⟨by omega, by omega⟩ (fun c37 => ?_) (fun c37 => ?_)
          · refine px_iconst hG dX11_placeFor_121 ?_
            exact px_iret (st := []) hG dX11_placeFor_122 rfl rfl (fun w_1 ee => by cases ee; exact ⟨_, rfl, rfl, ⟨by omega, by omega, fun h h1 => absurd h1 (by decide), fun h _ q a b => W h q a (by omega) b⟩⟩)
          · refine px_iload_n hG dX11_placeFor_63 rfl ?_
            refine px_iload_n hG dX11_placeFor_64 rfl ?_
            refine px_iadd hG dX11_placeFor_65 ?_
            refine px_istore_n hG dX11_placeFor_66 (Nat.le_of_ble_eq_true rfl) (L2 := [some (.inr (.inr (40, 0))), some (.inl w), some (.inl v2_31), some (.inl (w + v2_31))]) rfl ?_
            refine px_iload_n hG dX11_placeFor_67 rfl ?_
            refine px_aload_n hG dX11_placeFor_68 rfl ?_
            refine gi_40_1 hG dX11_placeFor_69 fl_X11_7 R0 (fun x38 ex38 lx38 ux38 => ?_)
            refine px_ic_le hG dX11_placeFor_72 (tgt := 85) (by decide) ⟨by omega, by omega⟩ ⟨by omega, by omega⟩ (fun c39 => ?_) (fun c39 => ?_)
            · refine px_iload_n hG dX11_placeFor_85 rfl ?_
              refine px_aload_n hG dX11_placeFor_86 rfl ?_
              refine gi_40_1 hG dX11_placeFor_87 fl_X11_7 R0 (fun x40 ex40 lx40 ux40 => ?_)
              have J103_43 : ∀ (j42 : Int), (1 ≤ j42 ∧ j42 ≤ s0 40 0 1 ∧ (s0 40 0 0 = 0 → j42 = w + v2_31)) → G 103 [some (.inr (.inr (40, 0))), some (.inl w), some (.inl v2_31), none] [.inl j42] 122 s0 := by
                intro j42 inv44
                refine px_istore_n hG dX11_placeFor_103 (Nat.le_of_ble_eq_true rfl) (L2 := [some (.inr (.inr (40, 0))), some (.inl w), some (.inl v2_31), some (.inl j42)]) rfl ?_
                refine px_aload_n hG dX11_placeFor_104 rfl ?_
                refine gr_40_7 hG dX11_placeFor_105 fl_X11_23 R0 ?_
                refine px_iload_n hG dX11_placeFor_108 rfl ?_
                refine al_44 hG dX11_placeFor_109 R0 (by omega) (fun x45 ex45 lx45 ux45 => ?_)
                have X9 := ex45
                have XW : s0 40 0 0 = 0 → s0 44 0 (w + v2_31) = x45 := fun h => by rw [← (show j42 = w + v2_31 by omega)]; exact X9
                refine px_if_ne hG dX11_placeFor_110 (tgt := 115) (by decide) ⟨by omega, by omega⟩ (fun c46 => ?_) (fun c46 => ?_)
                · refine px_iinc hG dX11_placeFor_115 (Nat.le_of_ble_eq_true rfl) rfl (L2 := [some (.inr (.inr (40, 0))), some (.inl w), some (.inl (v2_31 + 1)), some (.inl j42)]) rfl ?_
                  refine px_goto hG dX11_placeFor_118 (tgt := 55) (by decide) ?_
                  refine px_weak hG (L2 := [some (.inr (.inr (40, 0))), some (.inl w), some (.inl (v2_31 + 1)), none]) ⟨Or.inr rfl, Or.inr rfl, Or.inr rfl, Or.inl rfl, trivial⟩ ?_
                  exact ih33 (v2_31 + 1) (⟨by omega, fun h => pm_occ_s (W h) (by rw [XW h]; omega)⟩) (by omega)
                · refine px_iload_n hG dX11_placeFor_113 rfl ?_
                  exact px_iret (st := []) hG dX11_placeFor_114 rfl rfl (fun w_1 ee => by cases ee; exact ⟨_, rfl, rfl, ⟨by omega, by omega, fun h h1 => ⟨by omega, by omega, fun q a b => W h q a (by omega) (by omega)⟩, fun h h1 => by omega⟩⟩)
              refine px_ic_le hG dX11_placeFor_90 (tgt := 102) (by decide) ⟨by omega, by omega⟩ ⟨by omega, by omega⟩ (fun c41 => ?_) (fun c41 => ?_)
              · refine px_iload_n hG dX11_placeFor_102 rfl ?_
                refine px_weak hG (L2 := [some (.inr (.inr (40, 0))), some (.inl w), some (.inl v2_31), none]) ⟨Or.inr rfl, Or.inr rfl, Or.inr rfl, Or.inl rfl, trivial⟩ ?_
                exact J103_43 (w + v2_31) (by omega)
              · refine px_iload_n hG dX11_placeFor_93 rfl ?_
                refine px_aload_n hG dX11_placeFor_94 rfl ?_
                refine gi_40_1 hG dX11_placeFor_95 fl_X11_7 R0 (fun x47 ex47 lx47 ux47 => ?_)
                refine px_isub hG dX11_placeFor_98 ?_
                refine px_goto hG dX11_placeFor_99 (tgt := 103) (by decide) ?_
                refine px_weak hG (L2 := [some (.inr (.inr (40, 0))), some (.inl w), some (.inl v2_31), none]) ⟨Or.inr rfl, Or.inr rfl, Or.inr rfl, Or.inl rfl, trivial⟩ ?_
                exact J103_43 ((w + v2_31) - x47) (by omega)
            · refine px_aload_n hG dX11_placeFor_75 rfl ?_
              refine gi_40_0 hG dX11_placeFor_76 fl_X11_104 R0 (fun x48 ex48 lx48 ux48 => ?_)
              refine px_iconst hG dX11_placeFor_79 ?_
              refine px_ic_eq hG dX11_placeFor_80 (tgt := 85) (by decide) ⟨by omega, by omega⟩ ⟨by omega, by omega⟩ (fun c49 => ?_) (fun c49 => ?_)
              · refine px_iload_n hG dX11_placeFor_85 rfl ?_
                refine px_aload_n hG dX11_placeFor_86 rfl ?_
                refine gi_40_1 hG dX11_placeFor_87 fl_X11_7 R0 (fun x50 ex50 lx50 ux50 => ?_)
                have J103_53 : ∀ (j52 : Int), (1 ≤ j52 ∧ j52 ≤ s0 40 0 1 ∧ (s0 40 0 0 = 0 → j52 = w + v2_31)) → G 103 [some (.inr (.inr (40, 0))), some (.inl w), some (.inl v2_31), none] [.inl j52] 122 s0 := by
                  intro j52 inv54
                  refine px_istore_n hG dX11_placeFor_103 (Nat.le_of_ble_eq_true rfl) (L2 := [some (.inr (.inr (40, 0))), some (.inl w), some (.inl v2_31), some (.inl j52)]) rfl ?_
                  refine px_aload_n hG dX11_placeFor_104 rfl ?_
                  refine gr_40_7 hG dX11_placeFor_105 fl_X11_23 R0 ?_
                  refine px_iload_n hG dX11_placeFor_108 rfl ?_
                  refine al_44 hG dX11_placeFor_109 R0 (by omega) (fun x55 ex55 lx55 ux55 => ?_)
                  have X9 := ex55
                  have XW : s0 40 0 0 = 0 → s0 44 0 (w + v2_31) = x55 := fun h => by rw [← (show j52 = w + v2_31 by omega)]; exact X9
                  refine px_if_ne hG dX11_placeFor_110 (tgt := 115) (by decide) ⟨by omega, by omega⟩ (fun c56 => ?_) (fun c56 => ?_)
                  · refine px_iinc hG dX11_placeFor_115 (Nat.le_of_ble_eq_true rfl) rfl (L2 := [some (.inr (.inr (40, 0))), some (.inl w), some (.inl (v2_31 + 1)), some (.inl j52)]) rfl ?_
                    refine px_goto hG dX11_placeFor_118 (tgt := 55) (by decide) ?_
                    refine px_weak hG (L2 := [some (.inr (.inr (40, 0))), some (.inl w), some (.inl (v2_31 + 1)), none]) ⟨Or.inr rfl, Or.inr rfl, Or.inr rfl, Or.inl rfl, trivial⟩ ?_
                    exact ih33 (v2_31 + 1) (⟨by omega, fun h => pm_occ_s (W h) (by rw [XW h]; omega)⟩) (by omega)
                  · refine px_iload_n hG dX11_placeFor_113 rfl ?_
                    exact px_iret (st := []) hG dX11_placeFor_114 rfl rfl (fun w_1 ee => by cases ee; exact ⟨_, rfl, rfl, ⟨by omega, by omega, fun h h1 => ⟨by omega, by omega, fun q a b => W h q a (by omega) (by omega)⟩, fun h h1 => by omega⟩⟩)
                refine px_ic_le hG dX11_placeFor_90 (tgt := 102) (by decide) ⟨by omega, by omega⟩ ⟨by omega, by omega⟩ (fun c51 => ?_) (fun c51 => ?_)
                · refine px_iload_n hG dX11_placeFor_102 rfl ?_
                  refine px_weak hG (L2 := [some (.inr (.inr (40, 0))), some (.inl w), some (.inl v2_31), none]) ⟨Or.inr rfl, Or.inr rfl, Or.inr rfl, Or.inl rfl, trivial⟩ ?_
                  exact J103_53 (w + v2_31) (by omega)
                · refine px_iload_n hG dX11_placeFor_93 rfl ?_
                  refine px_aload_n hG dX11_placeFor_94 rfl ?_
                  refine gi_40_1 hG dX11_placeFor_95 fl_X11_7 R0 (fun x57 ex57 lx57 ux57 => ?_)
                  refine px_isub hG dX11_placeFor_98 ?_
                  refine px_goto hG dX11_placeFor_99 (tgt := 103) (by decide) ?_
                  refine px_weak hG (L2 := [some (.inr (.inr (40, 0))), some (.inl w), some (.inl v2_31), none]) ⟨Or.inr rfl, Or.inr rfl, Or.inr rfl, Or.inl rfl, trivial⟩ ?_
                  exact J103_53 ((w + v2_31) - x57) (by omega)
              · refine px_iconst hG dX11_placeFor_83 ?_
                exact px_iret (st := []) hG dX11_placeFor_84 rfl rfl (fun w_1 ee => by cases ee; exact ⟨_, rfl, rfl, ⟨by omega, by omega, fun h h1 => absurd h1 (by decide), fun h _ q a b => W h q a (by omega) b⟩⟩)
      exact L32 _ 0 (⟨by omega, fun h q a b c => by omega⟩) (Nat.lt_succ_self _)
    · refine px_iload_n hG dX11_placeFor_17 rfl ?_
      refine px_iconst hG dX11_placeFor_18 ?_
      refine px_isub hG dX11_placeFor_19 ?_
      refine px_istore_n hG dX11_placeFor_20 (Nat.le_of_ble_eq_true rfl) (L2 := [some (.inr (.inr (40, 0))), some (.inl w), some (.inl (w - 1)), none]) rfl ?_
      have L21 : ∀ (N : Nat) (v2_58 : Int), ((-10000 ≤ v2_58 ∧ v2_58 ≤ w - 1)) → (v2_58 + 10001).toNat < N → G 21 [some (.inr (.inr (40, 0))), some (.inl w), some (.inl v2_58), none] [] 122 s0 := by
        intro N
        induction N with
        | zero => intro v2_58 inv60 hm61; exact absurd hm61 (Nat.not_lt_zero _)
        | succ N ih59 =>
          intro v2_58 inv60 hm61
          refine px_iload_n hG dX11_placeFor_21 rfl ?_
          refine px_iconst hG dX11_placeFor_22 ?_
          refine px_ic_lt hG dX11_placeFor_23 (tgt := 53) (by decide) ⟨by omega, by omega⟩ ⟨by omega, by omega⟩ (fun c62 => ?_) (fun c62 => ?_)
          · refine px_iconst hG dX11_placeFor_53 ?_
            refine px_istore_n hG dX11_placeFor_54 (Nat.le_of_ble_eq_true rfl) (L2 := [some (.inr (.inr (40, 0))), some (.inl w), some (.inl 0), none]) rfl ?_
            have L64 : ∀ (N : Nat) (v2_63 : Int), ((0 ≤ v2_63 ∧ v2_63 ≤ 10000) ∧ (s0 40 0 0 = 0 → ∀ q : Int, w ≤ q → q < w + v2_63 → q ≤ s0 40 0 1 → s0 44 0 q ≠ 0)) → (10001 - v2_63).toNat < N → G 55 [some (.inr (.inr (40, 0))), some (.inl w), some (.inl v2_63), none] [] 122 s0 := by
              intro N
              induction N with
              | zero => intro v2_63 inv66 hm67; exact absurd hm67 (Nat.not_lt_zero _)
              | succ N ih65 =>
                intro v2_63 inv66 hm67
                have W := inv66.2
                refine px_iload_n hG dX11_placeFor_55 rfl ?_
                refine px_aload_n hG dX11_placeFor_56 rfl ?_
                refine gi_40_1 hG dX11_placeFor_57 fl_X11_7 R0 (fun x68 ex68 lx68 ux68 => ?_)
                refine px_ic_ge hG dX11_placeFor_60 (tgt := 121) (by decide) ⟨by omega, by omega⟩ ⟨by omega, by omega⟩ (fun c69 => ?_) (fun c69 => ?_)
                · refine px_iconst hG dX11_placeFor_121 ?_
                  exact px_iret (st := []) hG dX11_placeFor_122 rfl rfl (fun w_1 ee => by cases ee; exact ⟨_, rfl, rfl, ⟨by omega, by omega, fun h h1 => absurd h1 (by decide), fun h _ q a b => W h q a (by omega) b⟩⟩)
                · refine px_iload_n hG dX11_placeFor_63 rfl ?_
                  refine px_iload_n hG dX11_placeFor_64 rfl ?_
                  refine px_iadd hG dX11_placeFor_65 ?_
                  refine px_istore_n hG dX11_placeFor_66 (Nat.le_of_ble_eq_true rfl) (L2 := [some (.inr (.inr (40, 0))), some (.inl w), some (.inl v2_63), some (.inl (w + v2_63))]) rfl ?_
                  refine px_iload_n hG dX11_placeFor_67 rfl ?_
                  refine px_aload_n hG dX11_placeFor_68 rfl ?_
                  refine gi_40_1 hG dX11_placeFor_69 fl_X11_7 R0 (fun x70 ex70 lx70 ux70 => ?_)
                  refine px_ic_le hG dX11_placeFor_72 (tgt := 85) (by decide) ⟨by omega, by omega⟩ ⟨by omega, by omega⟩ (fun c71 => ?_) (fun c71 => ?_)
                  · refine px_iload_n hG dX11_placeFor_85 rfl ?_
                    refine px_aload_n hG dX11_placeFor_86 rfl ?_
                    refine gi_40_1 hG dX11_placeFor_87 fl_X11_7 R0 (fun x72 ex72 lx72 ux72 => ?_)
                    have J103_75 : ∀ (j74 : Int), (1 ≤ j74 ∧ j74 ≤ s0 40 0 1 ∧ (s0 40 0 0 = 0 → j74 = w + v2_63)) → G 103 [some (.inr (.inr (40, 0))), some (.inl w), some (.inl v2_63), none] [.inl j74] 122 s0 := by
                      intro j74 inv76
                      refine px_istore_n hG dX11_placeFor_103 (Nat.le_of_ble_eq_true rfl) (L2 := [some (.inr (.inr (40, 0))), some (.inl w), some (.inl v2_63), some (.inl j74)]) rfl ?_
                      refine px_aload_n hG dX11_placeFor_104 rfl ?_
                      refine gr_40_7 hG dX11_placeFor_105 fl_X11_23 R0 ?_
                      refine px_iload_n hG dX11_placeFor_108 rfl ?_
                      refine al_44 hG dX11_placeFor_109 R0 (by omega) (fun x77 ex77 lx77 ux77 => ?_)
                      have X9 := ex77
                      have XW : s0 40 0 0 = 0 → s0 44 0 (w + v2_63) = x77 := fun h => by rw [← (show j74 = w + v2_63 by omega)]; exact X9
                      refine px_if_ne hG dX11_placeFor_110 (tgt := 115) (by decide) ⟨by omega, by omega⟩ (fun c78 => ?_) (fun c78 => ?_)
                      · refine px_iinc hG dX11_placeFor_115 (Nat.le_of_ble_eq_true rfl) rfl (L2 := [some (.inr (.inr (40, 0))), some (.inl w), some (.inl (v2_63 + 1)), some (.inl j74)]) rfl ?_
                        refine px_goto hG dX11_placeFor_118 (tgt := 55) (by decide) ?_
                        refine px_weak hG (L2 := [some (.inr (.inr (40, 0))), some (.inl w), some (.inl (v2_63 + 1)), none]) ⟨Or.inr rfl, Or.inr rfl, Or.inr rfl, Or.inl rfl, trivial⟩ ?_
                        exact ih65 (v2_63 + 1) (⟨by omega, fun h => pm_occ_s (W h) (by rw [XW h]; omega)⟩) (by omega)
                      · refine px_iload_n hG dX11_placeFor_113 rfl ?_
                        exact px_iret (st := []) hG dX11_placeFor_114 rfl rfl (fun w_1 ee => by cases ee; exact ⟨_, rfl, rfl, ⟨by omega, by omega, fun h h1 => ⟨by omega, by omega, fun q a b => W h q a (by omega) (by omega)⟩, fun h h1 => by omega⟩⟩)
                    refine px_ic_le hG dX11_placeFor_90 (tgt := 102) (by decide) ⟨by omega, by omega⟩ ⟨by omega, by omega⟩ (fun c73 => ?_) (fun c73 => ?_)
                    · refine px_iload_n hG dX11_placeFor_102 rfl ?_
                      refine px_weak hG (L2 := [some (.inr (.inr (40, 0))), some (.inl w), some (.inl v2_63), none]) ⟨Or.inr rfl, Or.inr rfl, Or.inr rfl, Or.inl rfl, trivial⟩ ?_
                      exact J103_75 (w + v2_63) (by omega)
                    · refine px_iload_n hG dX11_placeFor_93 rfl ?_
                      refine px_aload_n hG dX11_placeFor_94 rfl ?_
                      refine gi_40_1 hG dX11_placeFor_95 fl_X11_7 R0 (fun x79 ex79 lx79 ux79 => ?_)
                      refine px_isub hG dX11_placeFor_98 ?_
                      refine px_goto hG dX11_placeFor_99 (tgt := 103) (by decide) ?_
                      refine px_weak hG (L2 := [some (.inr (.inr (40, 0))), some (.inl w), some (.inl v2_63), none]) ⟨Or.inr rfl, Or.inr rfl, Or.inr rfl, Or.inl rfl, trivial⟩ ?_
                      exact J103_75 ((w + v2_63) - x79) (by omega)
                  · refine px_aload_n hG dX11_placeFor_75 rfl ?_
                    refine gi_40_0 hG dX11_placeFor_76 fl_X11_104 R0 (fun x80 ex80 lx80 ux80 => ?_)
                    refine px_iconst hG dX11_placeFor_79 ?_
                    refine px_ic_eq hG dX11_placeFor_80 (tgt := 85) (by decide) ⟨by omega, by omega⟩ ⟨by omega, by omega⟩ (fun c81 => ?_) (fun c81 => ?_)
                    · refine px_iload_n hG dX11_placeFor_85 rfl ?_
                      refine px_aload_n hG dX11_placeFor_86 rfl ?_
                      refine gi_40_1 hG dX11_placeFor_87 fl_X11_7 R0 (fun x82 ex82 lx82 ux82 => ?_)
                      have J103_85 : ∀ (j84 : Int), (1 ≤ j84 ∧ j84 ≤ s0 40 0 1 ∧ (s0 40 0 0 = 0 → j84 = w + v2_63)) → G 103 [some (.inr (.inr (40, 0))), some (.inl w), some (.inl v2_63), none] [.inl j84] 122 s0 := by
                        intro j84 inv86
                        refine px_istore_n hG dX11_placeFor_103 (Nat.le_of_ble_eq_true rfl) (L2 := [some (.inr (.inr (40, 0))), some (.inl w), some (.inl v2_63), some (.inl j84)]) rfl ?_
                        refine px_aload_n hG dX11_placeFor_104 rfl ?_
                        refine gr_40_7 hG dX11_placeFor_105 fl_X11_23 R0 ?_
                        refine px_iload_n hG dX11_placeFor_108 rfl ?_
                        refine al_44 hG dX11_placeFor_109 R0 (by omega) (fun x87 ex87 lx87 ux87 => ?_)
                        have X9 := ex87
                        have XW : s0 40 0 0 = 0 → s0 44 0 (w + v2_63) = x87 := fun h => by rw [← (show j84 = w + v2_63 by omega)]; exact X9
                        refine px_if_ne hG dX11_placeFor_110 (tgt := 115) (by decide) ⟨by omega, by omega⟩ (fun c88 => ?_) (fun c88 => ?_)
                        · refine px_iinc hG dX11_placeFor_115 (Nat.le_of_ble_eq_true rfl) rfl (L2 := [some (.inr (.inr (40, 0))), some (.inl w), some (.inl (v2_63 + 1)), some (.inl j84)]) rfl ?_
                          refine px_goto hG dX11_placeFor_118 (tgt := 55) (by decide) ?_
                          refine px_weak hG (L2 := [some (.inr (.inr (40, 0))), some (.inl w), some (.inl (v2_63 + 1)), none]) ⟨Or.inr rfl, Or.inr rfl, Or.inr rfl, Or.inl rfl, trivial⟩ ?_
                          exact ih65 (v2_63 + 1) (⟨by omega, fun h => pm_occ_s (W h) (by rw [XW h]; omega)⟩) (by omega)
                        · refine px_iload_n hG dX11_placeFor_113 rfl ?_
                          exact px_iret (st := []) hG dX11_placeFor_114 rfl rfl (fun w_1 ee => by cases ee; exact ⟨_, rfl, rfl, ⟨by omega, by omega, fun h h1 => ⟨by omega, by omega, fun q a b => W h q a (by omega) (by omega)⟩, fun h h1 => by omega⟩⟩)
                      refine px_ic_le hG dX11_placeFor_90 (tgt := 102) (by decide) ⟨by omega, by omega⟩ ⟨by omega, by omega⟩ (fun c83 => ?_) (fun c83 => ?_)
                      · refine px_iload_n hG dX11_placeFor_102 rfl ?_
                        refine px_weak hG (L2 := [some (.inr (.inr (40, 0))), some (.inl w), some (.inl v2_63), none]) ⟨Or.inr rfl, Or.inr rfl, Or.inr rfl, Or.inl rfl, trivial⟩ ?_
                        exact J103_85 (w + v2_63) (by omega)
                      · refine px_iload_n hG dX11_placeFor_93 rfl ?_
                        refine px_aload_n hG dX11_placeFor_94 rfl ?_
                        refine gi_40_1 hG dX11_placeFor_95 fl_X11_7 R0 (fun x89 ex89 lx89 ux89 => ?_)
                        refine px_isub hG dX11_placeFor_98 ?_
                        refine px_goto hG dX11_placeFor_99 (tgt := 103) (by decide) ?_
                        refine px_weak hG (L2 := [some (.inr (.inr (40, 0))), some (.inl w), some (.inl v2_63), none]) ⟨Or.inr rfl, Or.inr rfl, Or.inr rfl, Or.inl rfl, trivial⟩ ?_
                        exact J103_85 ((w + v2_63) - x89) (by omega)
                    · refine px_iconst hG dX11_placeFor_83 ?_
                      exact px_iret (st := []) hG dX11_placeFor_84 rfl rfl (fun w_1 ee => by cases ee; exact ⟨_, rfl, rfl, ⟨by omega, by omega, fun h h1 => absurd h1 (by decide), fun h _ q a b => W h q a (by omega) b⟩⟩)
            exact L64 _ 0 (⟨by omega, fun h q a b c => by omega⟩) (Nat.lt_succ_self _)
          · refine px_iload_n hG dX11_placeFor_26 rfl ?_
            refine px_iload_n hG dX11_placeFor_27 rfl ?_
            refine px_aload_n hG dX11_placeFor_28 rfl ?_
            refine gi_40_2 hG dX11_placeFor_29 fl_X11_107 R0 (fun x90 ex90 lx90 ux90 => ?_)
            refine px_isub hG dX11_placeFor_32 ?_
            refine px_ic_lt hG dX11_placeFor_33 (tgt := 53) (by decide) ⟨by omega, by omega⟩ ⟨by omega, by omega⟩ (fun c91 => ?_) (fun c91 => ?_)
            · refine px_iconst hG dX11_placeFor_53 ?_
              refine px_istore_n hG dX11_placeFor_54 (Nat.le_of_ble_eq_true rfl) (L2 := [some (.inr (.inr (40, 0))), some (.inl w), some (.inl 0), none]) rfl ?_
              have L93 : ∀ (N : Nat) (v2_92 : Int), ((0 ≤ v2_92 ∧ v2_92 ≤ 10000) ∧ (s0 40 0 0 = 0 → ∀ q : Int, w ≤ q → q < w + v2_92 → q ≤ s0 40 0 1 → s0 44 0 q ≠ 0)) → (10001 - v2_92).toNat < N → G 55 [some (.inr (.inr (40, 0))), some (.inl w), some (.inl v2_92), none] [] 122 s0 := by
                intro N
                induction N with
                | zero => intro v2_92 inv95 hm96; exact absurd hm96 (Nat.not_lt_zero _)
                | succ N ih94 =>
                  intro v2_92 inv95 hm96
                  have W := inv95.2
                  refine px_iload_n hG dX11_placeFor_55 rfl ?_
                  refine px_aload_n hG dX11_placeFor_56 rfl ?_
                  refine gi_40_1 hG dX11_placeFor_57 fl_X11_7 R0 (fun x97 ex97 lx97 ux97 => ?_)
                  refine px_ic_ge hG dX11_placeFor_60 (tgt := 121) (by decide) ⟨by omega, by omega⟩ ⟨by omega, by omega⟩ (fun c98 => ?_) (fun c98 => ?_)
                  · refine px_iconst hG dX11_placeFor_121 ?_
                    exact px_iret (st := []) hG dX11_placeFor_122 rfl rfl (fun w_1 ee => by cases ee; exact ⟨_, rfl, rfl, ⟨by omega, by omega, fun h h1 => absurd h1 (by decide), fun h _ q a b => W h q a (by omega) b⟩⟩)
                  · refine px_iload_n hG dX11_placeFor_63 rfl ?_
                    refine px_iload_n hG dX11_placeFor_64 rfl ?_
                    refine px_iadd hG dX11_placeFor_65 ?_
                    refine px_istore_n hG dX11_placeFor_66 (Nat.le_of_ble_eq_true rfl) (L2 := [some (.inr (.inr (40, 0))), some (.inl w), some (.inl v2_92), some (.inl (w + v2_92))]) rfl ?_
                    refine px_iload_n hG dX11_placeFor_67 rfl ?_
                    refine px_aload_n hG dX11_placeFor_68 rfl ?_
                    refine gi_40_1 hG dX11_placeFor_69 fl_X11_7 R0 (fun x99 ex99 lx99 ux99 => ?_)
                    refine px_ic_le hG dX11_placeFor_72 (tgt := 85) (by decide) ⟨by omega, by omega⟩ ⟨by omega, by omega⟩ (fun c100 => ?_) (fun c100 => ?_)
                    · refine px_iload_n hG dX11_placeFor_85 rfl ?_
                      refine px_aload_n hG dX11_placeFor_86 rfl ?_
                      refine gi_40_1 hG dX11_placeFor_87 fl_X11_7 R0 (fun x101 ex101 lx101 ux101 => ?_)
                      have J103_104 : ∀ (j103 : Int), (1 ≤ j103 ∧ j103 ≤ s0 40 0 1 ∧ (s0 40 0 0 = 0 → j103 = w + v2_92)) → G 103 [some (.inr (.inr (40, 0))), some (.inl w), some (.inl v2_92), none] [.inl j103] 122 s0 := by
                        intro j103 inv105
                        refine px_istore_n hG dX11_placeFor_103 (Nat.le_of_ble_eq_true rfl) (L2 := [some (.inr (.inr (40, 0))), some (.inl w), some (.inl v2_92), some (.inl j103)]) rfl ?_
                        refine px_aload_n hG dX11_placeFor_104 rfl ?_
                        refine gr_40_7 hG dX11_placeFor_105 fl_X11_23 R0 ?_
                        refine px_iload_n hG dX11_placeFor_108 rfl ?_
                        refine al_44 hG dX11_placeFor_109 R0 (by omega) (fun x106 ex106 lx106 ux106 => ?_)
                        have X9 := ex106
                        have XW : s0 40 0 0 = 0 → s0 44 0 (w + v2_92) = x106 := fun h => by rw [← (show j103 = w + v2_92 by omega)]; exact X9
                        refine px_if_ne hG dX11_placeFor_110 (tgt := 115) (by decide) ⟨by omega, by omega⟩ (fun c107 => ?_) (fun c107 => ?_)
                        · refine px_iinc hG dX11_placeFor_115 (Nat.le_of_ble_eq_true rfl) rfl (L2 := [some (.inr (.inr (40, 0))), some (.inl w), some (.inl (v2_92 + 1)), some (.inl j103)]) rfl ?_
                          refine px_goto hG dX11_placeFor_118 (tgt := 55) (by decide) ?_
                          refine px_weak hG (L2 := [some (.inr (.inr (40, 0))), some (.inl w), some (.inl (v2_92 + 1)), none]) ⟨Or.inr rfl, Or.inr rfl, Or.inr rfl, Or.inl rfl, trivial⟩ ?_
                          exact ih94 (v2_92 + 1) (⟨by omega, fun h => pm_occ_s (W h) (by rw [XW h]; omega)⟩) (by omega)
                        · refine px_iload_n hG dX11_placeFor_113 rfl ?_
                          exact px_iret (st := []) hG dX11_placeFor_114 rfl rfl (fun w_1 ee => by cases ee; exact ⟨_, rfl, rfl, ⟨by omega, by omega, fun h h1 => ⟨by omega, by omega, fun q a b => W h q a (by omega) (by omega)⟩, fun h h1 => by omega⟩⟩)
                      refine px_ic_le hG dX11_placeFor_90 (tgt := 102) (by decide) ⟨by omega, by omega⟩ ⟨by omega, by omega⟩ (fun c102 => ?_) (fun c102 => ?_)
                      · refine px_iload_n hG dX11_placeFor_102 rfl ?_
                        refine px_weak hG (L2 := [some (.inr (.inr (40, 0))), some (.inl w), some (.inl v2_92), none]) ⟨Or.inr rfl, Or.inr rfl, Or.inr rfl, Or.inl rfl, trivial⟩ ?_
                        exact J103_104 (w + v2_92) (by omega)
                      · refine px_iload_n hG dX11_placeFor_93 rfl ?_
                        refine px_aload_n hG dX11_placeFor_94 rfl ?_
                        refine gi_40_1 hG dX11_placeFor_95 fl_X11_7 R0 (fun x108 ex108 lx108 ux108 => ?_)
                        refine px_isub hG dX11_placeFor_98 ?_
                        refine px_goto hG dX11_placeFor_99 (tgt := 103) (by decide) ?_
                        refine px_weak hG (L2 := [some (.inr (.inr (40, 0))), some (.inl w), some (.inl v2_92), none]) ⟨Or.inr rfl, Or.inr rfl, Or.inr rfl, Or.inl rfl, trivial⟩ ?_
                        exact J103_104 ((w + v2_92) - x108) (by omega)
                    · refine px_aload_n hG dX11_placeFor_75 rfl ?_
                      refine gi_40_0 hG dX11_placeFor_76 fl_X11_104 R0 (fun x109 ex109 lx109 ux109 => ?_)
                      refine px_iconst hG dX11_placeFor_79 ?_
                      refine px_ic_eq hG dX11_placeFor_80 (tgt := 85) (by decide) ⟨by omega, by omega⟩ ⟨by omega, by omega⟩ (fun c110 => ?_) (fun c110 => ?_)
                      · refine px_iload_n hG dX11_placeFor_85 rfl ?_
                        refine px_aload_n hG dX11_placeFor_86 rfl ?_
                        refine gi_40_1 hG dX11_placeFor_87 fl_X11_7 R0 (fun x111 ex111 lx111 ux111 => ?_)
                        have J103_114 : ∀ (j113 : Int), (1 ≤ j113 ∧ j113 ≤ s0 40 0 1 ∧ (s0 40 0 0 = 0 → j113 = w + v2_92)) → G 103 [some (.inr (.inr (40, 0))), some (.inl w), some (.inl v2_92), none] [.inl j113] 122 s0 := by
                          intro j113 inv115
                          refine px_istore_n hG dX11_placeFor_103 (Nat.le_of_ble_eq_true rfl) (L2 := [some (.inr (.inr (40, 0))), some (.inl w), some (.inl v2_92), some (.inl j113)]) rfl ?_
                          refine px_aload_n hG dX11_placeFor_104 rfl ?_
                          refine gr_40_7 hG dX11_placeFor_105 fl_X11_23 R0 ?_
                          refine px_iload_n hG dX11_placeFor_108 rfl ?_
                          refine al_44 hG dX11_placeFor_109 R0 (by omega) (fun x116 ex116 lx116 ux116 => ?_)
                          have X9 := ex116
                          have XW : s0 40 0 0 = 0 → s0 44 0 (w + v2_92) = x116 := fun h => by rw [← (show j113 = w + v2_92 by omega)]; exact X9
                          refine px_if_ne hG dX11_placeFor_110 (tgt := 115) (by decide) ⟨by omega, by omega⟩ (fun c117 => ?_) (fun c117 => ?_)
                          · refine px_iinc hG dX11_placeFor_115 (Nat.le_of_ble_eq_true rfl) rfl (L2 := [some (.inr (.inr (40, 0))), some (.inl w), some (.inl (v2_92 + 1)), some (.inl j113)]) rfl ?_
                            refine px_goto hG dX11_placeFor_118 (tgt := 55) (by decide) ?_
                            refine px_weak hG (L2 := [some (.inr (.inr (40, 0))), some (.inl w), some (.inl (v2_92 + 1)), none]) ⟨Or.inr rfl, Or.inr rfl, Or.inr rfl, Or.inl rfl, trivial⟩ ?_
                            exact ih94 (v2_92 + 1) (⟨by omega, fun h => pm_occ_s (W h) (by rw [XW h]; omega)⟩) (by omega)
                          · refine px_iload_n hG dX11_placeFor_113 rfl ?_
                            exact px_iret (st := []) hG dX11_placeFor_114 rfl rfl (fun w_1 ee => by cases ee; exact ⟨_, rfl, rfl, ⟨by omega, by omega, fun h h1 => ⟨by omega, by omega, fun q a b => W h q a (by omega) (by omega)⟩, fun h h1 => by omega⟩⟩)
                        refine px_ic_le hG dX11_placeFor_90 (tgt := 102) (by decide) ⟨by omega, by omega⟩ ⟨by omega, by omega⟩ (fun c112 => ?_) (fun c112 => ?_)
                        · refine px_iload_n hG dX11_placeFor_102 rfl ?_
                          refine px_weak hG (L2 := [some (.inr (.inr (40, 0))), some (.inl w), some (.inl v2_92), none]) ⟨Or.inr rfl, Or.inr rfl, Or.inr rfl, Or.inl rfl, trivial⟩ ?_
                          exact J103_114 (w + v2_92) (by omega)
                        · refine px_iload_n hG dX11_placeFor_93 rfl ?_
                          refine px_aload_n hG dX11_placeFor_94 rfl ?_
                          refine gi_40_1 hG dX11_placeFor_95 fl_X11_7 R0 (fun x118 ex118 lx118 ux118 => ?_)
                          refine px_isub hG dX11_placeFor_98 ?_
                          refine px_goto hG dX11_placeFor_99 (tgt := 103) (by decide) ?_
                          refine px_weak hG (L2 := [some (.inr (.inr (40, 0))), some (.inl w), some (.inl v2_92), none]) ⟨Or.inr rfl, Or.inr rfl, Or.inr rfl, Or.inl rfl, trivial⟩ ?_
                          exact J103_114 ((w + v2_92) - x118) (by omega)
                      · refine px_iconst hG dX11_placeFor_83 ?_
                        exact px_iret (st := []) hG dX11_placeFor_84 rfl rfl (fun w_1 ee => by cases ee; exact ⟨_, rfl, rfl, ⟨by omega, by omega, fun h h1 => absurd h1 (by decide), fun h _ q a b => W h q a (by omega) b⟩⟩)
              exact L93 _ 0 (⟨by omega, fun h q a b c => by omega⟩) (Nat.lt_succ_self _)
            · refine px_aload_n hG dX11_placeFor_36 rfl ?_
              refine gr_40_7 hG dX11_placeFor_37 fl_X11_23 R0 ?_
              refine px_iload_n hG dX11_placeFor_40 rfl ?_
              refine al_44 hG dX11_placeFor_41 R0 (by omega) (fun x119 ex119 lx119 ux119 => ?_)
              refine px_if_ne hG dX11_placeFor_42 (tgt := 47) (by decide) ⟨by omega, by omega⟩ (fun c120 => ?_) (fun c120 => ?_)
              · refine px_iinc hG dX11_placeFor_47 (Nat.le_of_ble_eq_true rfl) rfl (L2 := [some (.inr (.inr (40, 0))), some (.inl w), some (.inl (v2_58 + -1)), none]) rfl ?_
                refine px_goto hG dX11_placeFor_50 (tgt := 21) (by decide) ?_
                exact ih59 (v2_58 + -1) (by omega) (by omega)
              · refine px_iload_n hG dX11_placeFor_45 rfl ?_
                exact px_iret (st := []) hG dX11_placeFor_46 rfl rfl (fun w_1 ee => by cases ee; exact ⟨_, rfl, rfl, ⟨by omega, by omega, fun h h1 => by omega, fun h h1 => by omega⟩⟩)
      exact L21 _ (w - 1) (by omega) (Nat.lt_succ_self _))
def pre_X11_driveg (as : List pm_V) (n : Nat) (σ : pm_H) : Prop := as = [.inr (.inr (40, 0))] ∧ n = 122 ∧ pm_Rng σ ∧ ((pm_pl σ ∧ (∀ p : Int, 0 ≤ p → p ≤ σ 40 0 1 → pm_gt (σ 41 0) p (σ 40 0 3).toNat ≤ σ 40 0 1 - p)) ∧ pm_J2 σ)
def po_X11_driveg (as : List pm_V) (_ : Nat) (σ : pm_H) (r : Option pm_V) (τ : pm_H) : Prop := as = [.inr (.inr (40, 0))] → r = none ∧ pm_Rng τ ∧ pm_Fr [(43, none), (44, none)] σ τ ∧ (∀ j : Int, 1 ≤ j → j ≤ σ 40 0 3 → 1 ≤ τ 43 0 j)
set_option maxRecDepth 20000 in
set_option maxHeartbeats 4000000 in
theorem ct_X11_driveg : pm_Ct yX11_drive cX11_drive 4 none 1 0 pre_X11_driveg po_X11_driveg := pm_sound (ini := false) (by decide +kernel) pk_X11_drive (fun h => absurd h (by decide)) (by
  rintro as n s0 ⟨rfl, rfl, R0, hpre⟩
  refine ⟨by decide, Nat.le_of_ble_eq_true rfl, fun G hG => ?_⟩
  have hG : pm_Rules (RX11, 1, 122, cX11_drive, -1, (fun _ => 0), false, none, po_X11_driveg [.inr (.inr (40, 0))] 122 s0) G := hG
  show G 0 [some (.inr (.inr (40, 0))), none, none, none] [] 122 s0
  have B0 := pb_40_0 R0
  have B1 := pb_40_1 R0
  have B2 := pb_40_2 R0
  have B3 := pb_40_3 R0
  have J2 := hpre.2
  have HP := hpre.1
  have JK := J2.1
  have JW := J2.2
  have HK0 : s0 40 0 0 = 0 := HP.1.1
  refine px_iconst hG dX11_drive_0 ?_
  refine px_istore_n hG dX11_drive_1 (Nat.le_of_ble_eq_true rfl) (L2 := [some (.inr (.inr (40, 0))), some (.inl 0), none, none]) rfl ?_
  have L2 : ∀ (N : Nat) (v1_1 : Int) (s2 : pm_H), pm_Rng s2 → pm_Fr [(43, none), (44, none)] s0 s2 → ((0 ≤ v1_1 ∧ v1_1 ≤ 10000) ∧ (∀ q : Int, 0 ≤ q → q < v1_1 → s2 44 0 q = 0)) → (10001 - v1_1).toNat < N → G 2 [some (.inr (.inr (40, 0))), some (.inl v1_1), none, none] [] 122 s2 := by
    intro N
    induction N with
    | zero => intro v1_1 s2 R3 F4 inv6 hm7; exact absurd hm7 (Nat.not_lt_zero _)
    | succ N ih5 =>
      intro v1_1 s2 R3 F4 inv6 hm7
      have jj8 := F4 40 0 0 rfl
      have jj9 := F4 40 0 1 rfl
      have jj10 := F4 40 0 2 rfl
      have jj11 := F4 40 0 3 rfl
      have Z := inv6.2
      refine px_iload_n hG dX11_drive_2 rfl ?_
      refine px_bipush hG dX11_drive_3 (by decide) ?_
      have J21_13 : ((v1_1 > 10)) → G 21 [some (.inr (.inr (40, 0))), none, none, none] [] 122 s2 := by
        intro inv14
        refine px_iconst hG dX11_drive_21 ?_
        refine px_istore_n hG dX11_drive_22 (Nat.le_of_ble_eq_true rfl) (L2 := [some (.inr (.inr (40, 0))), some (.inl 1), none, none]) rfl ?_
        have L23 : ∀ (N : Nat) (v1_15 : Int) (s16 : pm_H), pm_Rng s16 → pm_Fr [(43, none), (44, none)] s0 s16 → ((1 ≤ v1_15 ∧ v1_15 ≤ 10000) ∧ (pm_o43 s16 v1_15 ∧ pm_I2 s16 (s0 41 0) (s0 40 0 1) (v1_15 - 1).toNat ∧ v1_15 ≤ s0 40 0 3 + 1)) → (10001 - v1_15).toNat < N → G 23 [some (.inr (.inr (40, 0))), some (.inl v1_15), none, none] [] 122 s16 := by
          intro N
          induction N with
          | zero => intro v1_15 s16 R17 F18 inv20 hm21; exact absurd hm21 (Nat.not_lt_zero _)
          | succ N ih19 =>
            intro v1_15 s16 R17 F18 inv20 hm21
            have jj22 := F18 40 0 0 rfl
            have jj23 := F18 40 0 1 rfl
            have jj24 := F18 40 0 2 rfl
            have jj25 := F18 40 0 3 rfl
            have O1 := (inv20.2).1
            have O2 := (inv20.2).2.1
            have O3 := (inv20.2).2.2
            refine px_iload_n hG dX11_drive_23 rfl ?_
            refine px_aload_n hG dX11_drive_24 rfl ?_
            refine gi_40_3 hG dX11_drive_25 fl_X11_110 R17 (fun x26 ex26 lx26 ux26 => ?_)
            have ex26 : s0 40 0 3 = x26 := (F18 40 0 3 rfl).symm.trans ex26
            refine px_ic_gt hG dX11_drive_28 (tgt := 118) (by decide) ⟨by omega, by omega⟩ ⟨by omega, by omega⟩ (fun c27 => ?_) (fun c27 => ?_)
            · have jj28 := F18 40 0 0 rfl
              have jj29 := F18 40 0 1 rfl
              have jj30 := F18 40 0 2 rfl
              have jj31 := F18 40 0 3 rfl
              exact px_vret (st := []) hG dX11_drive_118 rfl rfl (fun _ => by exact ⟨rfl, R17, F18, fun j a b => O1 j a (by omega)⟩)
            · refine px_aload_n hG dX11_drive_31 rfl ?_
              refine px_aload_n hG dX11_drive_32 rfl ?_
              refine gr_40_4 hG dX11_drive_33 fl_X11_13 R17 ?_
              refine px_iload_n hG dX11_drive_36 rfl ?_
              refine al_41 hG dX11_drive_37 R17 (by omega) (fun x32 ex32 lx32 ux32 => ?_)
              have X1 := (F18 41 0 v1_15 rfl).symm.trans ex32
              have XW := JW v1_15 (by omega) (by omega)
              refine jv1 hG dX11_drive_38 ct_X11_placeForf lk_X11_123 ⟨rfl, rfl⟩ (by decide) ⟨Nat.le_of_ble_eq_true rfl, Nat.le_of_ble_eq_true rfl, Nat.le_of_ble_eq_true rfl⟩ (Nat.le_of_ble_eq_true rfl) ⟨x32, rfl, rfl, R17, ⟨by omega, (pm_J2_fr F18 rfl J2)⟩⟩ (fun r33 t34 pr33 => ?_)
              obtain ⟨x35, rfl, rfl, br33⟩ := pr33 _ rfl
              show G 41 [some (.inr (.inr (40, 0))), some (.inl v1_15), none, none] [.inl x35] 122 s16
              have PF := br33
              have PV : 1 ≤ x35 := pm_prk O2 HP.2 X1 (by omega) (by omega) (by omega) (by omega) (fun z q q1 q2 => PF.2.2.2 (by omega) z q q1 (by omega))
              have PZ := PF.2.2.1 (by omega) PV
              refine px_istore_n hG dX11_drive_41 (Nat.le_of_ble_eq_true rfl) (L2 := [some (.inr (.inr (40, 0))), some (.inl v1_15), some (.inl x35), none]) rfl ?_
              refine px_aload_n hG dX11_drive_42 rfl ?_
              refine gr_40_6 hG dX11_drive_43 fl_X11_20 R17 ?_
              refine px_iload_n hG dX11_drive_46 rfl ?_
              refine px_aload_n hG dX11_drive_47 rfl ?_
              refine px_iload_n hG dX11_drive_48 rfl ?_
              refine px_aload_n hG dX11_drive_49 rfl ?_
              refine gr_40_5 hG dX11_drive_50 fl_X11_17 R17 ?_
              refine px_iload_n hG dX11_drive_53 rfl ?_
              refine al_42 hG dX11_drive_54 R17 (by omega) (fun x36 ex36 lx36 ux36 => ?_)
              have X5 := (F18 42 0 v1_15 rfl).symm.trans ex36
              have XL := HP.1.2 v1_15 (by omega) (by omega)
              refine jv2 hG dX11_drive_55 ct_X11_fits lk_X11_127 ⟨rfl, rfl⟩ (by decide) ⟨Nat.le_of_ble_eq_true rfl, Nat.le_of_ble_eq_true rfl, Nat.le_of_ble_eq_true rfl⟩ (Nat.le_of_ble_eq_true rfl) ⟨x35, x36, rfl, rfl, R17, ⟨by omega, (pm_J2_fr F18 rfl J2)⟩⟩ (fun r37 t38 pr37 => ?_)
              obtain ⟨x39, rfl, rfl, br37⟩ := pr37 _ _ rfl
              show G 58 [some (.inr (.inr (40, 0))), some (.inl v1_15), some (.inl x35), none] [.inl x39, .inl v1_15, .inr (.inr (43, 0))] 122 s16
              have FV : x39 = 1 := br37.2.2 (by omega) (by omega) PV PZ.2.1
              have J66_42 : ∀ (j41 : Int), ((x39 = 0 ∧ j41 = 0) ∨ (¬ (x39 = 0) ∧ j41 = x35)) → G 66 [some (.inr (.inr (40, 0))), some (.inl v1_15), some (.inl x35), none] [.inl j41, .inl v1_15, .inr (.inr (43, 0))] 122 s16 := by
                intro j41 inv43
                refine as_43 hG dX11_drive_66 R17 (by omega) (by omega) (fun s44 qs44 Rs44 => ?_)
                have Fs44 := pm_Fr_up (F18) qs44 (M := [(43, none), (44, none)]) rfl
                have jj45 := pm_nec qs44 (c' := 40) (r' := 0) (i' := 0) (by decide)
                have jj46 := pm_nec qs44 (c' := 40) (r' := 0) (i' := 1) (by decide)
                have jj47 := pm_nec qs44 (c' := 40) (r' := 0) (i' := 2) (by decide)
                have jj48 := pm_nec qs44 (c' := 40) (r' := 0) (i' := 3) (by decide)
                have E1 := qs44
                have OI := pm_gI_0 O1 O2 PZ.2.1 PZ.2.2 X1 E1 (by omega) (by omega) (by omega)
                refine px_iconst hG dX11_drive_67 ?_
                refine px_istore_n hG dX11_drive_68 (Nat.le_of_ble_eq_true rfl) (L2 := [some (.inr (.inr (40, 0))), some (.inl v1_15), some (.inl x35), some (.inl 0)]) rfl ?_
                have L69 : ∀ (N : Nat) (v3_49 : Int) (s50 : pm_H), pm_Rng s50 → pm_Fr [(43, none), (44, none)] s0 s50 → ((0 ≤ v3_49 ∧ v3_49 ≤ 10000) ∧ (pm_gI s50 (s0 41 0) (s0 40 0 1) v1_15 x35 v3_49)) → (10001 - v3_49).toNat < N → G 69 [some (.inr (.inr (40, 0))), some (.inl v1_15), some (.inl x35), some (.inl v3_49)] [] 122 s50 := by
                  intro N
                  induction N with
                  | zero => intro v3_49 s50 R51 F52 inv54 hm55; exact absurd hm55 (Nat.not_lt_zero _)
                  | succ N ih53 =>
                    intro v3_49 s50 R51 F52 inv54 hm55
                    have jj56 := F52 40 0 0 rfl
                    have jj57 := F52 40 0 1 rfl
                    have jj58 := F52 40 0 2 rfl
                    have jj59 := F52 40 0 3 rfl
                    have U := inv54.2
                    refine px_iload_n hG dX11_drive_69 rfl ?_
                    refine px_aload_n hG dX11_drive_70 rfl ?_
                    refine gr_40_5 hG dX11_drive_71 fl_X11_17 R51 ?_
                    refine px_iload_n hG dX11_drive_74 rfl ?_
                    refine al_42 hG dX11_drive_75 R51 (by omega) (fun x60 ex60 lx60 ux60 => ?_)
                    have X4 := (F52 42 0 v1_15 rfl).symm.trans ex60
                    have XM := HP.1.2 v1_15 (by omega) (by omega)
                    refine px_ic_ge hG dX11_drive_76 (tgt := 112) (by decide) ⟨by omega, by omega⟩ ⟨by omega, by omega⟩ (fun c61 => ?_) (fun c61 => ?_)
                    · refine px_iinc hG dX11_drive_112 (Nat.le_of_ble_eq_true rfl) rfl (L2 := [some (.inr (.inr (40, 0))), some (.inl (v1_15 + 1)), some (.inl x35), some (.inl v3_49)]) rfl ?_
                      refine px_goto hG dX11_drive_115 (tgt := 23) (by decide) ?_
                      refine px_weak hG (L2 := [some (.inr (.inr (40, 0))), some (.inl (v1_15 + 1)), none, none]) ⟨Or.inr rfl, Or.inr rfl, Or.inl rfl, Or.inl rfl, trivial⟩ ?_
                      exact ih19 (v1_15 + 1) s50 R51 F52 (⟨by omega, ⟨pm_gI_e U (by omega), pm_gI_c U (by omega), by omega⟩⟩) (by omega)
                    · refine px_aload_n hG dX11_drive_79 rfl ?_
                      refine gr_40_6 hG dX11_drive_80 fl_X11_20 R51 ?_
                      refine px_iload_n hG dX11_drive_83 rfl ?_
                      refine al_43 hG dX11_drive_84 R51 (by omega) (fun x62 ex62 lx62 ux62 => ?_)
                      have X8 := ex62
                      have X9 := U.2.1
                      refine px_if_le hG dX11_drive_85 (tgt := 112) (by decide) ⟨by omega, by omega⟩ (fun c63 => ?_) (fun c63 => ?_)
                      · refine px_iinc hG dX11_drive_112 (Nat.le_of_ble_eq_true rfl) rfl (L2 := [some (.inr (.inr (40, 0))), some (.inl (v1_15 + 1)), some (.inl x35), some (.inl v3_49)]) rfl ?_
                        refine px_goto hG dX11_drive_115 (tgt := 23) (by decide) ?_
                        refine px_weak hG (L2 := [some (.inr (.inr (40, 0))), some (.inl (v1_15 + 1)), none, none]) ⟨Or.inr rfl, Or.inr rfl, Or.inl rfl, Or.inl rfl, trivial⟩ ?_
                        exact ih19 (v1_15 + 1) s50 R51 F52 (⟨by omega, ⟨pm_gI_e U (by omega), pm_gI_c U (by omega), by omega⟩⟩) (by omega)
                      · refine px_aload_n hG dX11_drive_88 rfl ?_
                        refine gr_40_7 hG dX11_drive_89 fl_X11_23 R51 ?_
                        refine px_iload_n hG dX11_drive_92 rfl ?_
                        refine px_iload_n hG dX11_drive_93 rfl ?_
                        refine px_iadd hG dX11_drive_94 ?_
                        refine px_iconst hG dX11_drive_95 ?_
                        refine px_isub hG dX11_drive_96 ?_
                        refine px_aload_n hG dX11_drive_97 rfl ?_
                        refine gi_40_1 hG dX11_drive_98 fl_X11_7 R51 (fun x64 ex64 lx64 ux64 => ?_)
                        have ex64 : s0 40 0 1 = x64 := (F52 40 0 1 rfl).symm.trans ex64
                        refine px_irem hG dX11_drive_101 ⟨by omega, by omega⟩ ⟨by omega, by omega⟩ ?_
                        generalize hx65 : ((x35 + v3_49) - 1) % x64 = x65
                        have bx65 := pm_emod (x := (x35 + v3_49) - 1) (y := x64) (by omega) hx65
                        have EM : x65 = x35 - 1 := by rw [← hx65, Int.emod_eq_of_lt (by omega) (by omega)]; omega
                        refine px_iconst hG dX11_drive_102 ?_
                        refine px_iadd hG dX11_drive_103 ?_
                        refine px_iload_n hG dX11_drive_104 rfl ?_
                        refine as_44 hG dX11_drive_105 R51 (by omega) (by omega) (fun s66 qs66 Rs66 => ?_)
                        have Fs66 := pm_Fr_up (F52) qs66 (M := [(43, none), (44, none)]) rfl
                        have jj67 := pm_nec qs66 (c' := 40) (r' := 0) (i' := 0) (by decide)
                        have jj68 := pm_nec qs66 (c' := 40) (r' := 0) (i' := 1) (by decide)
                        have jj69 := pm_nec qs66 (c' := 40) (r' := 0) (i' := 2) (by decide)
                        have jj70 := pm_nec qs66 (c' := 40) (r' := 0) (i' := 3) (by decide)
                        have E2 := qs66
                        have OS := pm_gI_s U E2 (by omega) (by omega) (by omega) (by omega) (by have := JW v1_15 (by omega) (by omega); omega)
                        refine px_iinc hG dX11_drive_106 (Nat.le_of_ble_eq_true rfl) rfl (L2 := [some (.inr (.inr (40, 0))), some (.inl v1_15), some (.inl x35), some (.inl (v3_49 + 1))]) rfl ?_
                        refine px_goto hG dX11_drive_109 (tgt := 69) (by decide) ?_
                        exact ih53 (v3_49 + 1) s66 Rs66 Fs66 (⟨by omega, OS⟩) (by omega)
                exact L69 _ 0 s44 Rs44 Fs44 (⟨by omega, OI⟩) (Nat.lt_succ_self _)
              refine px_if_eq hG dX11_drive_58 (tgt := 65) (by decide) ⟨by omega, by omega⟩ (fun c40 => ?_) (fun c40 => ?_)
              · refine px_iconst hG dX11_drive_65 ?_
                exact J66_42 0 (by omega)
              · refine px_iload_n hG dX11_drive_61 rfl ?_
                refine px_goto hG dX11_drive_62 (tgt := 66) (by decide) ?_
                exact J66_42 x35 (by omega)
        exact L23 _ 1 s2 R3 F4 (⟨by omega, ⟨fun j a b => by omega, pm_I2_0 (fun q a b => Z q (by omega) (by omega)), by omega⟩⟩) (Nat.lt_succ_self _)
      refine px_ic_gt hG dX11_drive_5 (tgt := 21) (by decide) ⟨by omega, by omega⟩ ⟨by omega, by omega⟩ (fun c12 => ?_) (fun c12 => ?_)
      · refine px_weak hG (L2 := [some (.inr (.inr (40, 0))), none, none, none]) ⟨Or.inr rfl, Or.inl rfl, Or.inr rfl, Or.inr rfl, trivial⟩ ?_
        exact J21_13  (by omega)
      · refine px_aload_n hG dX11_drive_8 rfl ?_
        refine gr_40_7 hG dX11_drive_9 fl_X11_23 R3 ?_
        refine px_iload_n hG dX11_drive_12 rfl ?_
        refine px_iconst hG dX11_drive_13 ?_
        refine as_44 hG dX11_drive_14 R3 (by omega) (by omega) (fun s71 qs71 Rs71 => ?_)
        have Fs71 := pm_Fr_up (F4) qs71 (M := [(43, none), (44, none)]) rfl
        have jj72 := pm_nec qs71 (c' := 40) (r' := 0) (i' := 0) (by decide)
        have jj73 := pm_nec qs71 (c' := 40) (r' := 0) (i' := 1) (by decide)
        have jj74 := pm_nec qs71 (c' := 40) (r' := 0) (i' := 2) (by decide)
        have jj75 := pm_nec qs71 (c' := 40) (r' := 0) (i' := 3) (by decide)
        have EZ := qs71
        refine px_iinc hG dX11_drive_15 (Nat.le_of_ble_eq_true rfl) rfl (L2 := [some (.inr (.inr (40, 0))), some (.inl (v1_1 + 1)), none, none]) rfl ?_
        refine px_goto hG dX11_drive_18 (tgt := 2) (by decide) ?_
        exact ih5 (v1_1 + 1) s71 Rs71 Fs71 (⟨by omega, pm_z44 Z EZ⟩) (by omega)
  exact L2 _ 0 s0 R0 pm_Fr_rf (⟨by omega, fun q a b => by omega⟩) (Nat.lt_succ_self _))
def pre_X11_isGoodg (as : List pm_V) (n : Nat) (σ : pm_H) : Prop := as = [.inr (.inr (40, 0))] ∧ n = 122 ∧ pm_Rng σ ∧ ((pm_pl σ ∧ (∀ p : Int, 0 ≤ p → p ≤ σ 40 0 1 → pm_gt (σ 41 0) p (σ 40 0 3).toNat ≤ σ 40 0 1 - p)) ∧ pm_J2 σ)
def po_X11_isGoodg (as : List pm_V) (_ : Nat) (σ : pm_H) (r : Option pm_V) (τ : pm_H) : Prop := as = [.inr (.inr (40, 0))] → ∃ v : Int, r = some (.inl v) ∧ pm_Rng τ ∧ pm_Fr [(43, none), (44, none)] σ τ ∧ (v = 1)
set_option maxRecDepth 20000 in
set_option maxHeartbeats 4000000 in
theorem ct_X11_isGoodg : pm_Ct yX11_isGood cX11_isGood 3 (some .boolean) 2 0 pre_X11_isGoodg po_X11_isGoodg := pm_sound (ini := false) (by decide +kernel) pk_X11_isGood (fun h => absurd h (by decide)) (by
  rintro as n s0 ⟨rfl, rfl, R0, hpre⟩
  refine ⟨by decide, Nat.le_of_ble_eq_true rfl, fun G hG => ?_⟩
  have hG : pm_Rules (RX11, 2, 122, cX11_isGood, -1, (fun _ => 0), false, (some .boolean), po_X11_isGoodg [.inr (.inr (40, 0))] 122 s0) G := hG
  show G 0 [some (.inr (.inr (40, 0))), none, none] [] 122 s0
  have B0 := pb_40_0 R0
  have B1 := pb_40_1 R0
  have B2 := pb_40_2 R0
  have B3 := pb_40_3 R0
  have J2 := hpre.2
  have HP := hpre.1
  have JK := J2.1
  have JW := J2.2
  refine px_aload_n hG dX11_isGood_0 rfl ?_
  refine jv0 hG dX11_isGood_1 ct_X11_driveg lk_X11_131 ⟨rfl, rfl⟩ (by decide) ⟨Nat.le_of_ble_eq_true rfl, Nat.le_of_ble_eq_true rfl, Nat.le_of_ble_eq_true rfl⟩ (Nat.le_of_ble_eq_true rfl) ⟨rfl, rfl, R0, ⟨HP, J2⟩⟩ (fun r1 t3 pr1 => ?_)
  obtain ⟨rfl, Rt3, Ft3, br1⟩ := pr1 rfl
  have Ff5 := pm_Fr_mono Ft3 (M := [(43, none), (44, none)]) rfl
  have jj6 := Ft3 40 0 0 rfl
  have jj7 := Ft3 40 0 1 rfl
  have jj8 := Ft3 40 0 2 rfl
  have jj9 := Ft3 40 0 3 rfl
  show G 4 [some (.inr (.inr (40, 0))), none, none] [] 122 t3
  have D := br1
  refine px_iconst hG dX11_isGood_4 ?_
  refine px_istore_n hG dX11_isGood_5 (Nat.le_of_ble_eq_true rfl) (L2 := [some (.inr (.inr (40, 0))), some (.inl 1), none]) rfl ?_
  refine px_iconst hG dX11_isGood_6 ?_
  refine px_istore_n hG dX11_isGood_7 (Nat.le_of_ble_eq_true rfl) (L2 := [some (.inr (.inr (40, 0))), some (.inl 1), some (.inl 1)]) rfl ?_
  have L8 : ∀ (N : Nat) (v1_10 : Int) (v2_11 : Int), ((1 ≤ v2_11 ∧ v2_11 ≤ 10000) ∧ (v1_10 = 1)) → (10001 - v2_11).toNat < N → G 8 [some (.inr (.inr (40, 0))), some (.inl v1_10), some (.inl v2_11)] [] 122 t3 := by
    intro N
    induction N with
    | zero => intro v1_10 v2_11 inv13 hm14; exact absurd hm14 (Nat.not_lt_zero _)
    | succ N ih12 =>
      intro v1_10 v2_11 inv13 hm14
      refine px_iload_n hG dX11_isGood_8 rfl ?_
      refine px_aload_n hG dX11_isGood_9 rfl ?_
      refine gi_40_3 hG dX11_isGood_10 fl_X11_110 Rt3 (fun x15 ex15 lx15 ux15 => ?_)
      have ex15 : s0 40 0 3 = x15 := (Ff5 40 0 3 rfl).symm.trans ex15
      refine px_ic_gt hG dX11_isGood_13 (tgt := 41) (by decide) ⟨by omega, by omega⟩ ⟨by omega, by omega⟩ (fun c16 => ?_) (fun c16 => ?_)
      · refine px_iload_n hG dX11_isGood_41 rfl ?_
        have jj17 := Ff5 40 0 0 rfl
        have jj18 := Ff5 40 0 1 rfl
        have jj19 := Ff5 40 0 2 rfl
        have jj20 := Ff5 40 0 3 rfl
        exact px_zret (st := []) hG dX11_isGood_42 rfl (by omega) rfl (fun _ => by exact ⟨_, rfl, Rt3, Ff5, by omega⟩)
      · refine px_iload_n hG dX11_isGood_16 rfl ?_
        refine px_if_eq hG dX11_isGood_17 (tgt := 33) (by decide) ⟨by omega, by omega⟩ (fun c21 => ?_) (fun c21 => ?_)
        · refine px_iconst hG dX11_isGood_33 ?_
          refine px_istore_n hG dX11_isGood_34 (Nat.le_of_ble_eq_true rfl) (L2 := [some (.inr (.inr (40, 0))), some (.inl 0), some (.inl v2_11)]) rfl ?_
          refine px_iinc hG dX11_isGood_35 (Nat.le_of_ble_eq_true rfl) rfl (L2 := [some (.inr (.inr (40, 0))), some (.inl 0), some (.inl (v2_11 + 1))]) rfl ?_
          refine px_goto hG dX11_isGood_38 (tgt := 8) (by decide) ?_
          exact ih12 0 (v2_11 + 1) (⟨by omega, by omega⟩) (by omega)
        · refine px_aload_n hG dX11_isGood_20 rfl ?_
          refine gr_40_6 hG dX11_isGood_21 fl_X11_20 Rt3 ?_
          refine px_iload_n hG dX11_isGood_24 rfl ?_
          refine al_43 hG dX11_isGood_25 Rt3 (by omega) (fun x22 ex22 lx22 ux22 => ?_)
          have D2 := D v2_11 (by omega) (by omega)
          have X1 := ex22
          refine px_if_le hG dX11_isGood_26 (tgt := 33) (by decide) ⟨by omega, by omega⟩ (fun c23 => ?_) (fun c23 => ?_)
          · refine px_iconst hG dX11_isGood_33 ?_
            refine px_istore_n hG dX11_isGood_34 (Nat.le_of_ble_eq_true rfl) (L2 := [some (.inr (.inr (40, 0))), some (.inl 0), some (.inl v2_11)]) rfl ?_
            refine px_iinc hG dX11_isGood_35 (Nat.le_of_ble_eq_true rfl) rfl (L2 := [some (.inr (.inr (40, 0))), some (.inl 0), some (.inl (v2_11 + 1))]) rfl ?_
            refine px_goto hG dX11_isGood_38 (tgt := 8) (by decide) ?_
            exact ih12 0 (v2_11 + 1) (⟨by omega, by omega⟩) (by omega)
          · refine px_iconst hG dX11_isGood_29 ?_
            refine px_goto hG dX11_isGood_30 (tgt := 34) (by decide) ?_
            refine px_istore_n hG dX11_isGood_34 (Nat.le_of_ble_eq_true rfl) (L2 := [some (.inr (.inr (40, 0))), some (.inl 1), some (.inl v2_11)]) rfl ?_
            refine px_iinc hG dX11_isGood_35 (Nat.le_of_ble_eq_true rfl) rfl (L2 := [some (.inr (.inr (40, 0))), some (.inl 1), some (.inl (v2_11 + 1))]) rfl ?_
            refine px_goto hG dX11_isGood_38 (tgt := 8) (by decide) ?_
            exact ih12 1 (v2_11 + 1) (⟨by omega, by omega⟩) (by omega)
  exact L8 _ 1 1 (⟨by omega, by omega⟩) (Nat.lt_succ_self _))
def pre_X11_isGoodq (as : List pm_V) (n : Nat) (σ : pm_H) : Prop := as = [.inr (.inr (40, 0))] ∧ n = 122 ∧ pm_Rng σ ∧ (pm_J2 σ)
def po_X11_isGoodq (as : List pm_V) (_ : Nat) (σ : pm_H) (r : Option pm_V) (τ : pm_H) : Prop := as = [.inr (.inr (40, 0))] → ∃ v : Int, r = some (.inl v) ∧ pm_Rng τ ∧ pm_Fr [(43, none), (44, none)] σ τ ∧ ((v = 0 ∨ v = 1) ∧ (v = 1 → pm_pl σ → (∀ p : Int, 0 ≤ p → p ≤ σ 40 0 1 → pm_gt (σ 41 0) p (σ 40 0 3).toNat ≤ σ 40 0 1 - p)) ∧ (v = 0 → pm_pl σ → ¬ (∀ p : Int, 0 ≤ p → p ≤ σ 40 0 1 → pm_gt (σ 41 0) p (σ 40 0 3).toNat ≤ σ 40 0 1 - p)))
theorem ct_X11_isGoodq : pm_Ct yX11_isGood cX11_isGood 3 (some .boolean) 2 0 pre_X11_isGoodq po_X11_isGoodq := pm_Ct_or ct_X11_isGoodg ct_X11_isGood (fun as n σ hp => by
  obtain ⟨p1, p2, p3, p4⟩ := hp
  by_cases q : pm_pl σ ∧ (∀ p : Int, 0 ≤ p → p ≤ σ 40 0 1 → pm_gt (σ 41 0) p (σ 40 0 3).toNat ≤ σ 40 0 1 - p)
  · exact Or.inl ⟨⟨p1, p2, p3, q, p4⟩, fun r τ h e => by obtain ⟨v, h1, h2, h3, h4⟩ := h e; exact ⟨v, h1, h2, h3, Or.inr h4, fun _ _ => q.2, fun z => by omega⟩⟩
  · exact Or.inr ⟨⟨p1, p2, p3, p4⟩, fun r τ h e => by obtain ⟨v, h1, h2, h3, h4⟩ := h e; exact ⟨v, h1, h2, h3, h4.1, h4.2, fun _ a b => q ⟨a, b⟩⟩⟩)
def pre_X11_stepe (as : List pm_V) (n : Nat) (σ : pm_H) : Prop := as = [.inr (.inr (40, 0))] ∧ n = 122 ∧ pm_Rng σ ∧ (pm_J2 σ)
def po_X11_stepe (as : List pm_V) (_ : Nat) (σ : pm_H) (r : Option pm_V) (τ : pm_H) : Prop := as = [.inr (.inr (40, 0))] → ∃ v : Int, r = some (.inl v) ∧ pm_Rng τ ∧ pm_Fr [(41, none)] σ τ ∧ (pm_J2 τ ∧ ((v = 0 ∨ v = 1) ∧ (v = 1 → pm_vv (σ 41 0) (σ 40 0 3).toNat + 1 ≤ pm_vv (τ 41 0) (σ 40 0 3).toNat) ∧ (v = 1 → σ 40 0 3 = σ 40 0 1 → pm_OD (σ 40 0 1) (σ 41 0) (τ 41 0)) ∧ (v = 0 → ∀ x : Int, 1 ≤ x → x ≤ σ 40 0 3 → σ 41 0 x = σ 40 0 1)))
set_option maxRecDepth 20000 in
set_option maxHeartbeats 4000000 in
theorem ct_X11_stepe : pm_Ct yX11_step cX11_step 2 (some .boolean) 0 0 pre_X11_stepe po_X11_stepe := pm_sound (ini := false) (by decide +kernel) pk_X11_step (fun h => absurd h (by decide)) (by
  rintro as n s0 ⟨rfl, rfl, R0, hpre⟩
  refine ⟨by decide, Nat.le_of_ble_eq_true rfl, fun G hG => ?_⟩
  have hG : pm_Rules (RX11, 0, 122, cX11_step, -1, (fun _ => 0), false, (some .boolean), po_X11_stepe [.inr (.inr (40, 0))] 122 s0) G := hG
  show G 0 [some (.inr (.inr (40, 0))), none] [] 122 s0
  have B0 := pb_40_0 R0
  have B1 := pb_40_1 R0
  have B2 := pb_40_2 R0
  have B3 := pb_40_3 R0
  have J2 := hpre
  have JK := J2.1
  have JW := J2.2
  refine px_aload_n hG dX11_step_0 rfl ?_
  refine gi_40_3 hG dX11_step_1 fl_X11_110 R0 (fun x1 ex1 lx1 ux1 => ?_)
  refine px_istore_n hG dX11_step_4 (Nat.le_of_ble_eq_true rfl) (L2 := [some (.inr (.inr (40, 0))), some (.inl x1)]) rfl ?_
  have L5 : ∀ (N : Nat) (v1_2 : Int) (s3 : pm_H), pm_Rng s3 → pm_Fr [(41, none)] s0 s3 → s3 40 0 3 = x1 → ((-10000 ≤ v1_2 ∧ v1_2 ≤ x1) ∧ (pm_J2 s3 ∧ pm_vv (s0 41 0) (s0 40 0 3).toNat ≤ pm_vv (s3 41 0) (s0 40 0 3).toNat + pm_pw v1_2 - 1 ∧ 0 ≤ v1_2 ∧ (∀ x : Int, x ≤ v1_2 → s3 41 0 x = s0 41 0 x) ∧ ∀ x : Int, v1_2 < x → x ≤ s0 40 0 3 → s0 41 0 x = s0 40 0 1 ∧ s3 41 0 x = 1)) → (v1_2 + 10001).toNat < N → G 5 [some (.inr (.inr (40, 0))), some (.inl v1_2)] [] 122 s3 := by
    intro N
    induction N with
    | zero => intro v1_2 s3 R4 F5 k7 inv8 hm9; exact absurd hm9 (Nat.not_lt_zero _)
    | succ N ih6 =>
      intro v1_2 s3 R4 F5 k7 inv8 hm9
      have jj10 := F5 40 0 0 rfl
      have jj11 := F5 40 0 1 rfl
      have jj12 := F5 40 0 2 rfl
      have jj13 := F5 40 0 3 rfl
      have Js3 := (inv8.2).1
      have U := (inv8.2).2.1
      have U2 := (inv8.2).2.2.1
      have U3 := (inv8.2).2.2.2.1
      have U4 := (inv8.2).2.2.2.2
      refine px_iload_n hG dX11_step_5 rfl ?_
      refine px_iconst hG dX11_step_6 ?_
      refine px_ic_lt hG dX11_step_7 (tgt := 36) (by decide) ⟨by omega, by omega⟩ ⟨by omega, by omega⟩ (fun c14 => ?_) (fun c14 => ?_)
      · refine px_iload_n hG dX11_step_36 rfl ?_
        refine px_iconst hG dX11_step_37 ?_
        refine px_ic_lt hG dX11_step_38 (tgt := 51) (by decide) ⟨by omega, by omega⟩ ⟨by omega, by omega⟩ (fun c15 => ?_) (fun c15 => ?_)
        · refine px_iload_n hG dX11_step_51 rfl ?_
          refine px_iconst hG dX11_step_52 ?_
          refine px_ic_lt hG dX11_step_53 (tgt := 60) (by decide) ⟨by omega, by omega⟩ ⟨by omega, by omega⟩ (fun c16 => ?_) (fun c16 => ?_)
          · refine px_iconst hG dX11_step_60 ?_
            have jj17 := F5 40 0 0 rfl
            have jj18 := F5 40 0 1 rfl
            have jj19 := F5 40 0 2 rfl
            have jj20 := F5 40 0 3 rfl
            exact px_zret (st := []) hG dX11_step_61 rfl (by omega) rfl (fun _ => by exact ⟨_, rfl, R4, F5, by first | exact ⟨Js3, by omega, fun _ => by omega, fun _ z => OD z, fun h => by omega⟩ | exact ⟨Js3, by omega, fun h => by omega, fun h => by omega, fun _ x a b => (U4 x (by omega) b).1⟩⟩)
          · refine px_iconst hG dX11_step_56 ?_
            refine px_goto hG dX11_step_57 (tgt := 61) (by decide) ?_
            have jj21 := F5 40 0 0 rfl
            have jj22 := F5 40 0 1 rfl
            have jj23 := F5 40 0 2 rfl
            have jj24 := F5 40 0 3 rfl
            exact px_zret (st := []) hG dX11_step_61 rfl (by omega) rfl (fun _ => by exact ⟨_, rfl, R4, F5, by first | exact ⟨Js3, by omega, fun _ => by omega, fun _ z => OD z, fun h => by omega⟩ | exact ⟨Js3, by omega, fun h => by omega, fun h => by omega, fun _ x a b => (U4 x (by omega) b).1⟩⟩)
        · refine px_aload_n hG dX11_step_41 rfl ?_
          refine gr_40_4 hG dX11_step_42 fl_X11_13 R4 ?_
          refine px_iload_n hG dX11_step_45 rfl ?_
          refine px_dup2 hG dX11_step_46 ?_
          refine al_41 hG dX11_step_47 R4 (by omega) (fun x25 ex25 lx25 ux25 => ?_)
          have X3 := ex25
          refine px_iconst hG dX11_step_48 ?_
          refine px_iadd hG dX11_step_49 ?_
          refine as_41 hG dX11_step_50 R4 (by omega) (by omega) (fun s26 qs26 Rs26 => ?_)
          have Fs26 := pm_Fr_up (F5) qs26 (M := [(41, none)]) rfl
          have k27 : s26 40 0 3 = x1 := (pm_nec qs26 (by decide)).trans k7
          have jj28 := pm_nec qs26 (c' := 40) (r' := 0) (i' := 0) (by decide)
          have jj29 := pm_nec qs26 (c' := 40) (r' := 0) (i' := 1) (by decide)
          have jj30 := pm_nec qs26 (c' := 40) (r' := 0) (i' := 2) (by decide)
          have jj31 := pm_nec qs26 (c' := 40) (r' := 0) (i' := 3) (by decide)
          have Js26 := pm_J2_wish qs26 (by omega) (by omega) Js3
          have V := pm_st2 (k := (s0 40 0 3).toNat) qs26 X3 (by omega) (by omega)
          have E2 := qs26
          have OD := fun (z : s0 40 0 3 = s0 40 0 1) => pm_od_e U3 U4 E2 X3 z (by omega) (by omega) (by omega)
          refine px_iload_n hG dX11_step_51 rfl ?_
          refine px_iconst hG dX11_step_52 ?_
          refine px_ic_lt hG dX11_step_53 (tgt := 60) (by decide) ⟨by omega, by omega⟩ ⟨by omega, by omega⟩ (fun c32 => ?_) (fun c32 => ?_)
          · refine px_iconst hG dX11_step_60 ?_
            have jj33 := Fs26 40 0 0 rfl
            have jj34 := Fs26 40 0 1 rfl
            have jj35 := Fs26 40 0 2 rfl
            have jj36 := Fs26 40 0 3 rfl
            exact px_zret (st := []) hG dX11_step_61 rfl (by omega) rfl (fun _ => by exact ⟨_, rfl, Rs26, Fs26, by first | exact ⟨Js26, by omega, fun _ => by omega, fun _ z => OD z, fun h => by omega⟩ | exact ⟨Js26, by omega, fun h => by omega, fun h => by omega, fun _ x a b => (U4 x (by omega) b).1⟩⟩)
          · refine px_iconst hG dX11_step_56 ?_
            refine px_goto hG dX11_step_57 (tgt := 61) (by decide) ?_
            have jj37 := Fs26 40 0 0 rfl
            have jj38 := Fs26 40 0 1 rfl
            have jj39 := Fs26 40 0 2 rfl
            have jj40 := Fs26 40 0 3 rfl
            exact px_zret (st := []) hG dX11_step_61 rfl (by omega) rfl (fun _ => by exact ⟨_, rfl, Rs26, Fs26, by first | exact ⟨Js26, by omega, fun _ => by omega, fun _ z => OD z, fun h => by omega⟩ | exact ⟨Js26, by omega, fun h => by omega, fun h => by omega, fun _ x a b => (U4 x (by omega) b).1⟩⟩)
      · refine px_aload_n hG dX11_step_10 rfl ?_
        refine gr_40_4 hG dX11_step_11 fl_X11_13 R4 ?_
        refine px_iload_n hG dX11_step_14 rfl ?_
        refine al_41 hG dX11_step_15 R4 (by omega) (fun x41 ex41 lx41 ux41 => ?_)
        have X1 := Js3.2 v1_2 (by omega) (by omega)
        have X0 := ex41
        have X9 := U3 v1_2 (Int.le_refl _)
        refine px_aload_n hG dX11_step_16 rfl ?_
        refine gi_40_1 hG dX11_step_17 fl_X11_7 R4 (fun x42 ex42 lx42 ux42 => ?_)
        have ex42 : s0 40 0 1 = x42 := (F5 40 0 1 rfl).symm.trans ex42
        refine px_ic_ne hG dX11_step_20 (tgt := 36) (by decide) ⟨by omega, by omega⟩ ⟨by omega, by omega⟩ (fun c43 => ?_) (fun c43 => ?_)
        · refine px_iload_n hG dX11_step_36 rfl ?_
          refine px_iconst hG dX11_step_37 ?_
          refine px_ic_lt hG dX11_step_38 (tgt := 51) (by decide) ⟨by omega, by omega⟩ ⟨by omega, by omega⟩ (fun c44 => ?_) (fun c44 => ?_)
          · refine px_iload_n hG dX11_step_51 rfl ?_
            refine px_iconst hG dX11_step_52 ?_
            refine px_ic_lt hG dX11_step_53 (tgt := 60) (by decide) ⟨by omega, by omega⟩ ⟨by omega, by omega⟩ (fun c45 => ?_) (fun c45 => ?_)
            · refine px_iconst hG dX11_step_60 ?_
              have jj46 := F5 40 0 0 rfl
              have jj47 := F5 40 0 1 rfl
              have jj48 := F5 40 0 2 rfl
              have jj49 := F5 40 0 3 rfl
              exact px_zret (st := []) hG dX11_step_61 rfl (by omega) rfl (fun _ => by exact ⟨_, rfl, R4, F5, by first | exact ⟨Js3, by omega, fun _ => by omega, fun _ z => OD z, fun h => by omega⟩ | exact ⟨Js3, by omega, fun h => by omega, fun h => by omega, fun _ x a b => (U4 x (by omega) b).1⟩⟩)
            · refine px_iconst hG dX11_step_56 ?_
              refine px_goto hG dX11_step_57 (tgt := 61) (by decide) ?_
              have jj50 := F5 40 0 0 rfl
              have jj51 := F5 40 0 1 rfl
              have jj52 := F5 40 0 2 rfl
              have jj53 := F5 40 0 3 rfl
              exact px_zret (st := []) hG dX11_step_61 rfl (by omega) rfl (fun _ => by exact ⟨_, rfl, R4, F5, by first | exact ⟨Js3, by omega, fun _ => by omega, fun _ z => OD z, fun h => by omega⟩ | exact ⟨Js3, by omega, fun h => by omega, fun h => by omega, fun _ x a b => (U4 x (by omega) b).1⟩⟩)
          · refine px_aload_n hG dX11_step_41 rfl ?_
            refine gr_40_4 hG dX11_step_42 fl_X11_13 R4 ?_
            refine px_iload_n hG dX11_step_45 rfl ?_
            refine px_dup2 hG dX11_step_46 ?_
            refine al_41 hG dX11_step_47 R4 (by omega) (fun x54 ex54 lx54 ux54 => ?_)
            have X3 := ex54
            refine px_iconst hG dX11_step_48 ?_
            refine px_iadd hG dX11_step_49 ?_
            refine as_41 hG dX11_step_50 R4 (by omega) (by omega) (fun s55 qs55 Rs55 => ?_)
            have Fs55 := pm_Fr_up (F5) qs55 (M := [(41, none)]) rfl
            have k56 : s55 40 0 3 = x1 := (pm_nec qs55 (by decide)).trans k7
            have jj57 := pm_nec qs55 (c' := 40) (r' := 0) (i' := 0) (by decide)
            have jj58 := pm_nec qs55 (c' := 40) (r' := 0) (i' := 1) (by decide)
            have jj59 := pm_nec qs55 (c' := 40) (r' := 0) (i' := 2) (by decide)
            have jj60 := pm_nec qs55 (c' := 40) (r' := 0) (i' := 3) (by decide)
            have Js55 := pm_J2_wish qs55 (by omega) (by omega) Js3
            have V := pm_st2 (k := (s0 40 0 3).toNat) qs55 X3 (by omega) (by omega)
            have E2 := qs55
            have OD := fun (z : s0 40 0 3 = s0 40 0 1) => pm_od_e U3 U4 E2 X3 z (by omega) (by omega) (by omega)
            refine px_iload_n hG dX11_step_51 rfl ?_
            refine px_iconst hG dX11_step_52 ?_
            refine px_ic_lt hG dX11_step_53 (tgt := 60) (by decide) ⟨by omega, by omega⟩ ⟨by omega, by omega⟩ (fun c61 => ?_) (fun c61 => ?_)
            · refine px_iconst hG dX11_step_60 ?_
              have jj62 := Fs55 40 0 0 rfl
              have jj63 := Fs55 40 0 1 rfl
              have jj64 := Fs55 40 0 2 rfl
              have jj65 := Fs55 40 0 3 rfl
              exact px_zret (st := []) hG dX11_step_61 rfl (by omega) rfl (fun _ => by exact ⟨_, rfl, Rs55, Fs55, by first | exact ⟨Js55, by omega, fun _ => by omega, fun _ z => OD z, fun h => by omega⟩ | exact ⟨Js55, by omega, fun h => by omega, fun h => by omega, fun _ x a b => (U4 x (by omega) b).1⟩⟩)
            · refine px_iconst hG dX11_step_56 ?_
              refine px_goto hG dX11_step_57 (tgt := 61) (by decide) ?_
              have jj66 := Fs55 40 0 0 rfl
              have jj67 := Fs55 40 0 1 rfl
              have jj68 := Fs55 40 0 2 rfl
              have jj69 := Fs55 40 0 3 rfl
              exact px_zret (st := []) hG dX11_step_61 rfl (by omega) rfl (fun _ => by exact ⟨_, rfl, Rs55, Fs55, by first | exact ⟨Js55, by omega, fun _ => by omega, fun _ z => OD z, fun h => by omega⟩ | exact ⟨Js55, by omega, fun h => by omega, fun h => by omega, fun _ x a b => (U4 x (by omega) b).1⟩⟩)
        · refine px_aload_n hG dX11_step_23 rfl ?_
          refine gr_40_4 hG dX11_step_24 fl_X11_13 R4 ?_
          refine px_iload_n hG dX11_step_27 rfl ?_
          refine px_iconst hG dX11_step_28 ?_
          refine as_41 hG dX11_step_29 R4 (by omega) (by omega) (fun s70 qs70 Rs70 => ?_)
          have Fs70 := pm_Fr_up (F5) qs70 (M := [(41, none)]) rfl
          have k71 : s70 40 0 3 = x1 := (pm_nec qs70 (by decide)).trans k7
          have jj72 := pm_nec qs70 (c' := 40) (r' := 0) (i' := 0) (by decide)
          have jj73 := pm_nec qs70 (c' := 40) (r' := 0) (i' := 1) (by decide)
          have jj74 := pm_nec qs70 (c' := 40) (r' := 0) (i' := 2) (by decide)
          have jj75 := pm_nec qs70 (c' := 40) (r' := 0) (i' := 3) (by decide)
          have Js70 := pm_J2_wish qs70 (by omega) (by omega) Js3
          have V := pm_st1 (k := (s0 40 0 3).toNat) qs70 (by omega) (by omega) (by omega) (by omega)
          have E1 := qs70
          refine px_iinc hG dX11_step_30 (Nat.le_of_ble_eq_true rfl) rfl (L2 := [some (.inr (.inr (40, 0))), some (.inl (v1_2 + -1))]) rfl ?_
          refine px_goto hG dX11_step_33 (tgt := 5) (by decide) ?_
          exact ih6 (v1_2 + -1) s70 Rs70 Fs70 k71 (⟨by omega, ⟨Js70, by omega, by omega, fun x a => (pm_nei E1 (by omega)).trans (U3 x (by omega)), pm_od_s U4 E1 (by omega)⟩⟩) (by omega)
  exact L5 _ x1 s0 R0 pm_Fr_rf ex1 (⟨by omega, ⟨J2, by have P := pm_pw_pos x1; omega, by omega, fun x _ => rfl, fun x a b => by omega⟩⟩) (Nat.lt_succ_self _))
def pre_X11_findWalke (as : List pm_V) (n : Nat) (σ : pm_H) : Prop := as = [.inr (.inr (40, 0))] ∧ n = 122 ∧ pm_Rng σ ∧ ((σ 40 0 3 = σ 40 0 1) ∧ pm_J2 σ)
def po_X11_findWalke (as : List pm_V) (_ : Nat) (σ : pm_H) (r : Option pm_V) (τ : pm_H) : Prop := as = [.inr (.inr (40, 0))] → r = none ∧ pm_Rng τ ∧ pm_Fr [(57, none), (58, none)] σ τ ∧ ((pm_gd (σ 41 0) (σ 40 0 1).toNat → ∀ q : Int, 1 ≤ q → q ≤ σ 40 0 1 → 0 ≤ τ 58 0 q ∧ τ 58 0 q ≤ q - 1) ∧ (pm_gd (σ 41 0) (σ 40 0 1).toNat → pm_wI (pm_wv (σ 41 0) (σ 40 0 1).toNat (σ 40 0 1).toNat) (τ 57 0) (τ 58 0) (σ 40 0 1)))
set_option maxRecDepth 20000 in
set_option maxHeartbeats 4000000 in
theorem ct_X11_findWalke : pm_Ct yX11_findWalk cX11_findWalk 4 none 0 0 pre_X11_findWalke po_X11_findWalke := pm_sound (ini := false) (by decide +kernel) pk_X11_findWalk (fun h => absurd h (by decide)) (by
  rintro as n s0 ⟨rfl, rfl, R0, hpre⟩
  refine ⟨by decide, Nat.le_of_ble_eq_true rfl, fun G hG => ?_⟩
  have hG : pm_Rules (RX11, 0, 122, cX11_findWalk, -1, (fun _ => 0), false, none, po_X11_findWalke [.inr (.inr (40, 0))] 122 s0) G := hG
  show G 0 [some (.inr (.inr (40, 0))), none, none, none] [] 122 s0
  have B0 := pb_40_0 R0
  have B1 := pb_40_1 R0
  have B2 := pb_40_2 R0
  have B3 := pb_40_3 R0
  have J2 := hpre.2
  have HP := hpre.1
  have JK := J2.1
  have JW := J2.2
  refine px_iconst hG dX11_findWalk_0 ?_
  refine px_istore_n hG dX11_findWalk_1 (Nat.le_of_ble_eq_true rfl) (L2 := [some (.inr (.inr (40, 0))), some (.inl 0), none, none]) rfl ?_
  refine px_iconst hG dX11_findWalk_2 ?_
  refine px_istore_n hG dX11_findWalk_3 (Nat.le_of_ble_eq_true rfl) (L2 := [some (.inr (.inr (40, 0))), some (.inl 0), some (.inl 1), none]) rfl ?_
  have L4 : ∀ (N : Nat) (v1_1 : Int) (v2_2 : Int) (s3 : pm_H), pm_Rng s3 → pm_Fr [(57, none), (58, none)] s0 s3 → ((0 ≤ v1_1 ∧ v1_1 ≤ 10000) ∧ (1 ≤ v2_2 ∧ v2_2 ≤ 10000) ∧ (v1_1 = pm_sc (s0 41 0) v2_2 1 (s0 40 0 1).toNat ∧ 1 ≤ v2_2 ∧ v2_2 ≤ s0 40 0 1 + 1 ∧ (pm_gd (s0 41 0) (s0 40 0 1).toNat → ∀ q : Int, 1 ≤ q → q ≤ v1_1 → 0 ≤ s3 58 0 q ∧ s3 58 0 q ≤ q - 1) ∧ pm_wI (pm_wS (s0 41 0) (s0 40 0 1).toNat v2_2 1) (s3 57 0) (s3 58 0) v1_1)) → (10001 - v2_2).toNat < N → G 4 [some (.inr (.inr (40, 0))), some (.inl v1_1), some (.inl v2_2), none] [] 122 s3 := by
    intro N
    induction N with
    | zero => intro v1_1 v2_2 s3 R4 F5 inv7 hm8; exact absurd hm8 (Nat.not_lt_zero _)
    | succ N ih6 =>
      intro v1_1 v2_2 s3 R4 F5 inv7 hm8
      have jj9 := F5 40 0 0 rfl
      have jj10 := F5 40 0 1 rfl
      have jj11 := F5 40 0 2 rfl
      have jj12 := F5 40 0 3 rfl
      have W := inv7.2.2
      refine px_iload_n hG dX11_findWalk_4 rfl ?_
      refine px_aload_n hG dX11_findWalk_5 rfl ?_
      refine gi_40_1 hG dX11_findWalk_6 fl_X11_7 R4 (fun x13 ex13 lx13 ux13 => ?_)
      have ex13 : s0 40 0 1 = x13 := (F5 40 0 1 rfl).symm.trans ex13
      refine px_ic_gt hG dX11_findWalk_9 (tgt := 63) (by decide) ⟨by omega, by omega⟩ ⟨by omega, by omega⟩ (fun c14 => ?_) (fun c14 => ?_)
      · have A := fun hg => pm_sc_gdall (f := s0 41 0) (v := v2_2) (k := (s0 40 0 1).toNat) hg (by omega)
        have B := pm_wI_e W.2.2.2.2 (by omega)
        have C : pm_gd (s0 41 0) (s0 40 0 1).toNat → pm_wI (pm_wv (s0 41 0) (s0 40 0 1).toNat (s0 40 0 1).toNat) (s3 57 0) (s3 58 0) (s0 40 0 1) := fun hg => pm_wI_j B (by have q := A hg; omega)
        have jj15 := F5 40 0 0 rfl
        have jj16 := F5 40 0 1 rfl
        have jj17 := F5 40 0 2 rfl
        have jj18 := F5 40 0 3 rfl
        exact px_vret (st := []) hG dX11_findWalk_63 rfl rfl (fun _ => by exact ⟨rfl, R4, F5, ⟨fun hg q h0 h1 => W.2.2.2.1 hg q h0 (by have := A hg; omega), C⟩⟩)
      · refine px_iconst hG dX11_findWalk_12 ?_
        refine px_istore_n hG dX11_findWalk_13 (Nat.le_of_ble_eq_true rfl) (L2 := [some (.inr (.inr (40, 0))), some (.inl v1_1), some (.inl v2_2), some (.inl 1)]) rfl ?_
        have L14 : ∀ (N : Nat) (v1_19 : Int) (v3_20 : Int) (s21 : pm_H), pm_Rng s21 → pm_Fr [(57, none), (58, none)] s0 s21 → ((v1_1 ≤ v1_19 ∧ v1_19 ≤ 10000) ∧ (1 ≤ v3_20 ∧ v3_20 ≤ 10000) ∧ (v1_19 = pm_sc (s0 41 0) v2_2 v3_20 (s0 40 0 1).toNat ∧ v3_20 ≤ s0 40 0 1 + 1 ∧ (pm_gd (s0 41 0) (s0 40 0 1).toNat → ∀ q : Int, 1 ≤ q → q ≤ v1_19 → 0 ≤ s21 58 0 q ∧ s21 58 0 q ≤ q - 1) ∧ pm_wI (pm_wS (s0 41 0) (s0 40 0 1).toNat v2_2 v3_20) (s21 57 0) (s21 58 0) v1_19)) → (10001 - v3_20).toNat < N → G 14 [some (.inr (.inr (40, 0))), some (.inl v1_19), some (.inl v2_2), some (.inl v3_20)] [] 122 s21 := by
          intro N
          induction N with
          | zero => intro v1_19 v3_20 s21 R22 F23 inv25 hm26; exact absurd hm26 (Nat.not_lt_zero _)
          | succ N ih24 =>
            intro v1_19 v3_20 s21 R22 F23 inv25 hm26
            have jj27 := F23 40 0 0 rfl
            have jj28 := F23 40 0 1 rfl
            have jj29 := F23 40 0 2 rfl
            have jj30 := F23 40 0 3 rfl
            have U := inv25.2.2
            have U1 := U.1
            have UB := pm_sc_le (s0 41 0) v2_2 v3_20 (s0 40 0 1).toNat
            have UN := pm_sc_nn (s0 41 0) v2_2 v3_20 (s0 40 0 1).toNat
            refine px_iload_n hG dX11_findWalk_14 rfl ?_
            refine px_aload_n hG dX11_findWalk_15 rfl ?_
            refine gi_40_3 hG dX11_findWalk_16 fl_X11_110 R22 (fun x31 ex31 lx31 ux31 => ?_)
            have ex31 : s0 40 0 3 = x31 := (F23 40 0 3 rfl).symm.trans ex31
            refine px_ic_gt hG dX11_findWalk_19 (tgt := 57) (by decide) ⟨by omega, by omega⟩ ⟨by omega, by omega⟩ (fun c32 => ?_) (fun c32 => ?_)
            · have NX := pm_sc_nx (f := s0 41 0) (v := v2_2) (c := v3_20) (k := (s0 40 0 1).toNat) (by omega)
              have NV := pm_wI_x U.2.2.2 (by omega) (by omega)
              refine px_iinc hG dX11_findWalk_57 (Nat.le_of_ble_eq_true rfl) rfl (L2 := [some (.inr (.inr (40, 0))), some (.inl v1_19), some (.inl (v2_2 + 1)), some (.inl v3_20)]) rfl ?_
              refine px_goto hG dX11_findWalk_60 (tgt := 4) (by decide) ?_
              refine px_weak hG (L2 := [some (.inr (.inr (40, 0))), some (.inl v1_19), some (.inl (v2_2 + 1)), none]) ⟨Or.inr rfl, Or.inr rfl, Or.inr rfl, Or.inl rfl, trivial⟩ ?_
              exact ih6 v1_19 (v2_2 + 1) s21 R22 F23 (⟨by omega, by omega, ⟨by omega, by omega, by omega, U.2.2.1, NV⟩⟩) (by omega)
            · refine px_aload_n hG dX11_findWalk_22 rfl ?_
              refine gr_40_4 hG dX11_findWalk_23 fl_X11_13 R22 ?_
              refine px_iload_n hG dX11_findWalk_26 rfl ?_
              refine al_41 hG dX11_findWalk_27 R22 (by omega) (fun x33 ex33 lx33 ux33 => ?_)
              have X1 := (F23 41 0 v3_20 rfl).symm.trans ex33
              refine px_iload_n hG dX11_findWalk_28 rfl ?_
              refine px_ic_ne hG dX11_findWalk_29 (tgt := 51) (by decide) ⟨by omega, by omega⟩ ⟨by omega, by omega⟩ (fun c34 => ?_) (fun c34 => ?_)
              · refine px_iinc hG dX11_findWalk_51 (Nat.le_of_ble_eq_true rfl) rfl (L2 := [some (.inr (.inr (40, 0))), some (.inl v1_19), some (.inl v2_2), some (.inl (v3_20 + 1))]) rfl ?_
                refine px_goto hG dX11_findWalk_54 (tgt := 14) (by decide) ?_
                exact ih24 v1_19 (v3_20 + 1) s21 R22 F23 (⟨by omega, by omega, by first | exact ⟨by omega, by omega, fun hg => pm_hst8 E1 E2 (U.2.2.1 hg) (by have := VG hg; omega) (by omega), pm_wI_s U.2.2.2 (by omega) (by omega) E1 E2 (by decide)⟩ | exact ⟨by rw [pm_sc_st (by omega)]; omega, by omega, U.2.2.1, pm_wI_n U.2.2.2 (by omega) (by omega)⟩⟩) (by omega)
              · have V := pm_sc_up (f := s0 41 0) (v := v2_2) (c := v3_20) (k := (s0 40 0 1).toNat) (by omega) (by omega) (by omega) (by omega)
                have VB := pm_sc_le (s0 41 0) v2_2 (v3_20 + 1) (s0 40 0 1).toNat
                have VG := fun hg => pm_sc_gd (f := s0 41 0) (v := v2_2) (c := v3_20) (k := (s0 40 0 1).toNat) hg (by omega) (by omega) (by omega)
                refine px_iinc hG dX11_findWalk_32 (Nat.le_of_ble_eq_true rfl) rfl (L2 := [some (.inr (.inr (40, 0))), some (.inl (v1_19 + 1)), some (.inl v2_2), some (.inl v3_20)]) rfl ?_
                refine px_aload_n hG dX11_findWalk_35 rfl ?_
                refine gr_40_20 hG dX11_findWalk_36 fl_X11_64 R22 ?_
                refine px_iload_n hG dX11_findWalk_39 rfl ?_
                refine px_iload_n hG dX11_findWalk_40 rfl ?_
                refine as_57 hG dX11_findWalk_41 R22 (by omega) (by omega) (fun s35 qs35 Rs35 => ?_)
                have Fs35 := pm_Fr_up (F23) qs35 (M := [(57, none), (58, none)]) rfl
                have jj36 := pm_nec qs35 (c' := 40) (r' := 0) (i' := 0) (by decide)
                have jj37 := pm_nec qs35 (c' := 40) (r' := 0) (i' := 1) (by decide)
                have jj38 := pm_nec qs35 (c' := 40) (r' := 0) (i' := 2) (by decide)
                have jj39 := pm_nec qs35 (c' := 40) (r' := 0) (i' := 3) (by decide)
                have E1 := qs35
                refine px_aload_n hG dX11_findWalk_42 rfl ?_
                refine gr_40_21 hG dX11_findWalk_43 fl_X11_67 Rs35 ?_
                refine px_iload_n hG dX11_findWalk_46 rfl ?_
                refine px_iload_n hG dX11_findWalk_47 rfl ?_
                refine px_iload_n hG dX11_findWalk_48 rfl ?_
                refine px_isub hG dX11_findWalk_49 ?_
                refine as_58 hG dX11_findWalk_50 Rs35 (by omega) (by omega) (fun s40 qs40 Rs40 => ?_)
                have Fs40 := pm_Fr_up (Fs35) qs40 (M := [(57, none), (58, none)]) rfl
                have jj41 := pm_nec qs40 (c' := 40) (r' := 0) (i' := 0) (by decide)
                have jj42 := pm_nec qs40 (c' := 40) (r' := 0) (i' := 1) (by decide)
                have jj43 := pm_nec qs40 (c' := 40) (r' := 0) (i' := 2) (by decide)
                have jj44 := pm_nec qs40 (c' := 40) (r' := 0) (i' := 3) (by decide)
                have E2 := qs40
                refine px_iinc hG dX11_findWalk_51 (Nat.le_of_ble_eq_true rfl) rfl (L2 := [some (.inr (.inr (40, 0))), some (.inl (v1_19 + 1)), some (.inl v2_2), some (.inl (v3_20 + 1))]) rfl ?_
                refine px_goto hG dX11_findWalk_54 (tgt := 14) (by decide) ?_
                exact ih24 (v1_19 + 1) (v3_20 + 1) s40 Rs40 Fs40 (⟨by omega, by omega, by first | exact ⟨by omega, by omega, fun hg => pm_hst8 E1 E2 (U.2.2.1 hg) (by have := VG hg; omega) (by omega), pm_wI_s U.2.2.2 (by omega) (by omega) E1 E2 (by decide)⟩ | exact ⟨by rw [pm_sc_st (by omega)]; omega, by omega, U.2.2.1, pm_wI_n U.2.2.2 (by omega) (by omega)⟩⟩) (by omega)
        exact L14 _ v1_1 1 s3 R4 F5 (⟨by omega, by omega, ⟨W.1, by omega, W.2.2.2.1, W.2.2.2.2⟩⟩) (Nat.lt_succ_self _)
  exact L4 _ 0 1 s0 R0 pm_Fr_rf (⟨by omega, by omega, ⟨(pm_sc_0 _ _).symm, by omega, by omega, fun _ q h0 h1 => by omega, pm_wI_0⟩⟩) (Nat.lt_succ_self _))
def pre_X11_areae (as : List pm_V) (n : Nat) (σ : pm_H) : Prop := as = [.inr (.inr (40, 0))] ∧ n = 122 ∧ pm_Rng σ ∧ (pm_J2 σ)
def po_X11_areae (as : List pm_V) (_ : Nat) (σ : pm_H) (r : Option pm_V) (τ : pm_H) : Prop := as = [.inr (.inr (40, 0))] → ∃ v : Int, r = some (.inl v) ∧ σ = τ ∧ (v = pm_sm (σ 58 0) (σ 40 0 1).toNat ∧ ((∀ j : Int, 1 ≤ j → j ≤ σ 40 0 1 → 0 ≤ σ 58 0 j ∧ σ 58 0 j ≤ j - 1) → 0 ≤ v ∧ v ≤ pm_t1 (σ 40 0 1).toNat))
set_option maxRecDepth 20000 in
set_option maxHeartbeats 4000000 in
theorem ct_X11_areae : pm_Ct yX11_area cX11_area 3 (some .int) 0 0 pre_X11_areae po_X11_areae := pm_sound (ini := false) (by decide +kernel) pk_X11_area (fun h => absurd h (by decide)) (by
  rintro as n s0 ⟨rfl, rfl, R0, hpre⟩
  refine ⟨by decide, Nat.le_of_ble_eq_true rfl, fun G hG => ?_⟩
  have hG : pm_Rules (RX11, 0, 122, cX11_area, -1, (fun _ => 0), false, (some .int), po_X11_areae [.inr (.inr (40, 0))] 122 s0) G := hG
  show G 0 [some (.inr (.inr (40, 0))), none, none] [] 122 s0
  have B0 := pb_40_0 R0
  have B1 := pb_40_1 R0
  have B2 := pb_40_2 R0
  have B3 := pb_40_3 R0
  have J2 := hpre
  have JK := J2.1
  have JW := J2.2
  refine px_iconst hG dX11_area_0 ?_
  refine px_istore_n hG dX11_area_1 (Nat.le_of_ble_eq_true rfl) (L2 := [some (.inr (.inr (40, 0))), some (.inl 0), none]) rfl ?_
  refine px_iconst hG dX11_area_2 ?_
  refine px_istore_n hG dX11_area_3 (Nat.le_of_ble_eq_true rfl) (L2 := [some (.inr (.inr (40, 0))), some (.inl 0), some (.inl 1)]) rfl ?_
  have L4 : ∀ (N : Nat) (v1_1 : Int) (v2_2 : Int), ((1 ≤ v2_2 ∧ v2_2 ≤ 10000) ∧ (v2_2 ≤ s0 40 0 1 + 1 ∧ v1_1 = pm_sm (s0 58 0) (v2_2 - 1).toNat ∧ ((∀ j : Int, 1 ≤ j → j ≤ s0 40 0 1 → 0 ≤ s0 58 0 j ∧ s0 58 0 j ≤ j - 1) → 0 ≤ v1_1 ∧ v1_1 ≤ pm_t1 (v2_2 - 1).toNat))) → (10001 - v2_2).toNat < N → G 4 [some (.inr (.inr (40, 0))), some (.inl v1_1), some (.inl v2_2)] [] 122 s0 := by
    intro N
    induction N with
    | zero => intro v1_1 v2_2 inv4 hm5; exact absurd hm5 (Nat.not_lt_zero _)
    | succ N ih3 =>
      intro v1_1 v2_2 inv4 hm5
      have W := (inv4.2).2.2
      have WS := (inv4.2).2.1
      have W0 := (inv4.2).1
      refine px_iload_n hG dX11_area_4 rfl ?_
      refine px_aload_n hG dX11_area_5 rfl ?_
      refine gi_40_1 hG dX11_area_6 fl_X11_7 R0 (fun x6 ex6 lx6 ux6 => ?_)
      refine px_ic_gt hG dX11_area_9 (tgt := 27) (by decide) ⟨by omega, by omega⟩ ⟨by omega, by omega⟩ (fun c7 => ?_) (fun c7 => ?_)
      · have T : v2_2 - 1 = s0 40 0 1 := by omega
        rw [T] at WS W
        refine px_iload_n hG dX11_area_27 rfl ?_
        exact px_iret (st := []) hG dX11_area_28 rfl rfl (fun _ => by exact ⟨_, rfl, rfl, ⟨WS, W⟩⟩)
      · refine px_iload_n hG dX11_area_12 rfl ?_
        refine px_aload_n hG dX11_area_13 rfl ?_
        refine gr_40_21 hG dX11_area_14 fl_X11_67 R0 ?_
        refine px_iload_n hG dX11_area_17 rfl ?_
        refine al_58 hG dX11_area_18 R0 (by omega) (fun x8 ex8 lx8 ux8 => ?_)
        have X1 := ex8
        refine px_iadd hG dX11_area_19 ?_
        refine px_istore_n hG dX11_area_20 (Nat.le_of_ble_eq_true rfl) (L2 := [some (.inr (.inr (40, 0))), some (.inl (v1_1 + x8)), some (.inl v2_2)]) rfl ?_
        have T := pm_t1_s (a := v2_2) (by omega)
        have H1 := fun (h : (∀ j : Int, 1 ≤ j → j ≤ s0 40 0 1 → 0 ≤ s0 58 0 j ∧ s0 58 0 j ≤ j - 1)) => h v2_2 (by omega) (by omega)
        refine px_iinc hG dX11_area_21 (Nat.le_of_ble_eq_true rfl) rfl (L2 := [some (.inr (.inr (40, 0))), some (.inl (v1_1 + x8)), some (.inl (v2_2 + 1))]) rfl ?_
        refine px_goto hG dX11_area_24 (tgt := 4) (by decide) ?_
        exact ih3 (v1_1 + x8) (v2_2 + 1) (⟨by omega, ⟨by omega, by rw [pm_sm_s (by omega) X1, ← WS], fun h => by have h1 := H1 h; have h2 := W h; rw [X1] at h1; omega⟩⟩) (by omega)
  exact L4 _ 0 1 (⟨by omega, ⟨by omega, rfl, fun _ => ⟨by decide, by decide⟩⟩⟩) (Nat.lt_succ_self _))
def pre_X11_dinve (as : List pm_V) (n : Nat) (σ : pm_H) : Prop := as = [.inr (.inr (40, 0))] ∧ n = 122 ∧ pm_Rng σ ∧ (pm_J2 σ)
def po_X11_dinve (as : List pm_V) (_ : Nat) (σ : pm_H) (r : Option pm_V) (τ : pm_H) : Prop := as = [.inr (.inr (40, 0))] → ∃ v : Int, r = some (.inl v) ∧ σ = τ ∧ (v = pm_dj (σ 57 0) (σ 58 0) (σ 40 0 1).toNat)
set_option maxRecDepth 20000 in
set_option maxHeartbeats 4000000 in
theorem ct_X11_dinve : pm_Ct yX11_dinv cX11_dinv 5 (some .int) 0 0 pre_X11_dinve po_X11_dinve := pm_sound (ini := false) (by decide +kernel) pk_X11_dinv (fun h => absurd h (by decide)) (by
  rintro as n s0 ⟨rfl, rfl, R0, hpre⟩
  refine ⟨by decide, Nat.le_of_ble_eq_true rfl, fun G hG => ?_⟩
  have hG : pm_Rules (RX11, 0, 122, cX11_dinv, -1, (fun _ => 0), false, (some .int), po_X11_dinve [.inr (.inr (40, 0))] 122 s0) G := hG
  show G 0 [some (.inr (.inr (40, 0))), none, none, none, none] [] 122 s0
  have B0 := pb_40_0 R0
  have B1 := pb_40_1 R0
  have B2 := pb_40_2 R0
  have B3 := pb_40_3 R0
  have J2 := hpre
  have JK := J2.1
  have JW := J2.2
  refine px_iconst hG dX11_dinv_0 ?_
  refine px_istore_n hG dX11_dinv_1 (Nat.le_of_ble_eq_true rfl) (L2 := [some (.inr (.inr (40, 0))), some (.inl 0), none, none, none]) rfl ?_
  refine px_iconst hG dX11_dinv_2 ?_
  refine px_istore_n hG dX11_dinv_3 (Nat.le_of_ble_eq_true rfl) (L2 := [some (.inr (.inr (40, 0))), some (.inl 0), some (.inl 1), none, none]) rfl ?_
  have L4 : ∀ (N : Nat) (v1_1 : Int) (v2_2 : Int), ((1 ≤ v2_2 ∧ v2_2 ≤ 10000) ∧ (v1_1 = pm_ej (s0 57 0) (s0 58 0) (s0 40 0 1).toNat (v2_2 - 1).toNat ∧ v2_2 ≤ s0 40 0 1 + 1)) → (10001 - v2_2).toNat < N → G 4 [some (.inr (.inr (40, 0))), some (.inl v1_1), some (.inl v2_2), none, none] [] 122 s0 := by
    intro N
    induction N with
    | zero => intro v1_1 v2_2 inv4 hm5; exact absurd hm5 (Nat.not_lt_zero _)
    | succ N ih3 =>
      intro v1_1 v2_2 inv4 hm5
      have W1 := (inv4.2).1
      have W2 := (inv4.2).2
      refine px_iload_n hG dX11_dinv_4 rfl ?_
      refine px_aload_n hG dX11_dinv_5 rfl ?_
      refine gi_40_1 hG dX11_dinv_6 fl_X11_7 R0 (fun x6 ex6 lx6 ux6 => ?_)
      refine px_ic_gt hG dX11_dinv_9 (tgt := 118) (by decide) ⟨by omega, by omega⟩ ⟨by omega, by omega⟩ (fun c7 => ?_) (fun c7 => ?_)
      · have Q : (v2_2 - 1).toNat = (s0 40 0 1).toNat := by omega
        rw [Q, pm_ej_dj] at W1
        refine px_iload_n hG dX11_dinv_118 rfl ?_
        exact px_iret (st := []) hG dX11_dinv_119 rfl rfl (fun _ => by exact ⟨_, rfl, rfl, W1⟩)
      · refine px_iload_n hG dX11_dinv_12 rfl ?_
        refine px_iconst hG dX11_dinv_13 ?_
        refine px_iadd hG dX11_dinv_14 ?_
        refine px_istore_n hG dX11_dinv_15 (Nat.le_of_ble_eq_true rfl) (L2 := [some (.inr (.inr (40, 0))), some (.inl v1_1), some (.inl v2_2), some (.inl (v2_2 + 1)), none]) rfl ?_
        have L16 : ∀ (N : Nat) (v1_8 : Int) (v3_9 : Int), ((v2_2 + 1 ≤ v3_9 ∧ v3_9 ≤ 10000) ∧ (v1_8 = pm_ej (s0 57 0) (s0 58 0) (s0 40 0 1).toNat (v2_2 - 1).toNat + pm_ei (s0 57 0) (s0 58 0) v2_2 (v3_9 - 1).toNat ∧ v3_9 ≤ s0 40 0 1 + 1)) → (10001 - v3_9).toNat < N → G 16 [some (.inr (.inr (40, 0))), some (.inl v1_8), some (.inl v2_2), some (.inl v3_9), none] [] 122 s0 := by
          intro N
          induction N with
          | zero => intro v1_8 v3_9 inv11 hm12; exact absurd hm12 (Nat.not_lt_zero _)
          | succ N ih10 =>
            intro v1_8 v3_9 inv11 hm12
            have U1 := (inv11.2).1
            have U2 := (inv11.2).2
            refine px_iload_n hG dX11_dinv_16 rfl ?_
            refine px_aload_n hG dX11_dinv_17 rfl ?_
            refine gi_40_1 hG dX11_dinv_18 fl_X11_7 R0 (fun x13 ex13 lx13 ux13 => ?_)
            refine px_ic_gt hG dX11_dinv_21 (tgt := 112) (by decide) ⟨by omega, by omega⟩ ⟨by omega, by omega⟩ (fun c14 => ?_) (fun c14 => ?_)
            · have U5 : v1_8 = pm_ej (s0 57 0) (s0 58 0) (s0 40 0 1).toNat (v2_2 - 1).toNat + pm_ei (s0 57 0) (s0 58 0) v2_2 (s0 40 0 1).toNat := by
                have q : (v3_9 - 1).toNat = (s0 40 0 1).toNat := by omega
                rw [q] at U1
                exact U1
              refine px_iinc hG dX11_dinv_112 (Nat.le_of_ble_eq_true rfl) rfl (L2 := [some (.inr (.inr (40, 0))), some (.inl v1_8), some (.inl (v2_2 + 1)), some (.inl v3_9), none]) rfl ?_
              refine px_goto hG dX11_dinv_115 (tgt := 4) (by decide) ?_
              refine px_weak hG (L2 := [some (.inr (.inr (40, 0))), some (.inl v1_8), some (.inl (v2_2 + 1)), none, none]) ⟨Or.inr rfl, Or.inr rfl, Or.inr rfl, Or.inl rfl, Or.inr rfl, trivial⟩ ?_
              exact ih3 v1_8 (v2_2 + 1) (⟨by omega, ⟨by rw [pm_ej_st (by omega)]; exact U5, by omega⟩⟩) (by omega)
            · refine px_aload_n hG dX11_dinv_24 rfl ?_
              refine gr_40_21 hG dX11_dinv_25 fl_X11_67 R0 ?_
              refine px_iload_n hG dX11_dinv_28 rfl ?_
              refine al_58 hG dX11_dinv_29 R0 (by omega) (fun x15 ex15 lx15 ux15 => ?_)
              refine px_aload_n hG dX11_dinv_30 rfl ?_
              refine gr_40_21 hG dX11_dinv_31 fl_X11_67 R0 ?_
              refine px_iload_n hG dX11_dinv_34 rfl ?_
              refine al_58 hG dX11_dinv_35 R0 (by omega) (fun x16 ex16 lx16 ux16 => ?_)
              have J59_19 : ∀ (j18 : Int), ((j18 = 1 ∧ s0 58 0 v2_2 = s0 58 0 v3_9 ∧ s0 57 0 v2_2 < s0 57 0 v3_9) ∨ (j18 = 0 ∧ ¬ (s0 58 0 v2_2 = s0 58 0 v3_9 ∧ s0 57 0 v2_2 < s0 57 0 v3_9))) → G 59 [some (.inr (.inr (40, 0))), some (.inl v1_8), some (.inl v2_2), some (.inl v3_9), none] [.inl j18] 122 s0 := by
                intro j18 inv20
                refine px_istore hG dX11_dinv_59 (Nat.le_of_ble_eq_true rfl) (L2 := [some (.inr (.inr (40, 0))), some (.inl v1_8), some (.inl v2_2), some (.inl v3_9), some (.inl j18)]) rfl ?_
                refine px_iload_n hG dX11_dinv_61 rfl ?_
                refine px_iload hG dX11_dinv_62 rfl ?_
                have J104_23 : ∀ (j22 : Int), (j22 = pm_tn (s0 57 0) (s0 58 0) v2_2 v3_9) → G 104 [some (.inr (.inr (40, 0))), none, some (.inl v2_2), some (.inl v3_9), none] [.inl j22, .inl v1_8] 122 s0 := by
                  intro j22 inv24
                  have TI := inv24
                  refine px_iadd hG dX11_dinv_104 ?_
                  refine px_istore_n hG dX11_dinv_105 (Nat.le_of_ble_eq_true rfl) (L2 := [some (.inr (.inr (40, 0))), some (.inl (v1_8 + j22)), some (.inl v2_2), some (.inl v3_9), none]) rfl ?_
                  refine px_iinc hG dX11_dinv_106 (Nat.le_of_ble_eq_true rfl) rfl (L2 := [some (.inr (.inr (40, 0))), some (.inl (v1_8 + j22)), some (.inl v2_2), some (.inl (v3_9 + 1)), none]) rfl ?_
                  refine px_goto hG dX11_dinv_109 (tgt := 16) (by decide) ?_
                  exact ih10 (v1_8 + j22) (v3_9 + 1) (⟨by omega, ⟨by rw [pm_ei_s (by omega) (by omega) TI]; omega, by omega⟩⟩) (by omega)
                refine px_if_ne hG dX11_dinv_64 (tgt := 99) (by decide) ⟨by omega, by omega⟩ (fun c21 => ?_) (fun c21 => ?_)
                · refine px_iconst hG dX11_dinv_99 ?_
                  refine px_goto hG dX11_dinv_100 (tgt := 104) (by decide) ?_
                  refine px_weak hG (L2 := [some (.inr (.inr (40, 0))), none, some (.inl v2_2), some (.inl v3_9), none]) ⟨Or.inr rfl, Or.inl rfl, Or.inr rfl, Or.inr rfl, Or.inl rfl, trivial⟩ ?_
                  exact J104_23 1 (by unfold pm_tn; first | rw [if_pos (by omega)] | rw [if_neg (by omega)])
                · refine px_aload_n hG dX11_dinv_67 rfl ?_
                  refine gr_40_21 hG dX11_dinv_68 fl_X11_67 R0 ?_
                  refine px_iload_n hG dX11_dinv_71 rfl ?_
                  refine al_58 hG dX11_dinv_72 R0 (by omega) (fun x25 ex25 lx25 ux25 => ?_)
                  refine px_aload_n hG dX11_dinv_73 rfl ?_
                  refine gr_40_21 hG dX11_dinv_74 fl_X11_67 R0 ?_
                  refine px_iload_n hG dX11_dinv_77 rfl ?_
                  refine al_58 hG dX11_dinv_78 R0 (by omega) (fun x26 ex26 lx26 ux26 => ?_)
                  refine px_iconst hG dX11_dinv_79 ?_
                  refine px_iadd hG dX11_dinv_80 ?_
                  refine px_ic_ne hG dX11_dinv_81 (tgt := 103) (by decide) ⟨by omega, by omega⟩ ⟨by omega, by omega⟩ (fun c27 => ?_) (fun c27 => ?_)
                  · refine px_iconst hG dX11_dinv_103 ?_
                    refine px_weak hG (L2 := [some (.inr (.inr (40, 0))), none, some (.inl v2_2), some (.inl v3_9), none]) ⟨Or.inr rfl, Or.inl rfl, Or.inr rfl, Or.inr rfl, Or.inl rfl, trivial⟩ ?_
                    exact J104_23 0 (by unfold pm_tn; first | rw [if_pos (by omega)] | rw [if_neg (by omega)])
                  · refine px_aload_n hG dX11_dinv_84 rfl ?_
                    refine gr_40_20 hG dX11_dinv_85 fl_X11_64 R0 ?_
                    refine px_iload_n hG dX11_dinv_88 rfl ?_
                    refine al_57 hG dX11_dinv_89 R0 (by omega) (fun x28 ex28 lx28 ux28 => ?_)
                    refine px_aload_n hG dX11_dinv_90 rfl ?_
                    refine gr_40_20 hG dX11_dinv_91 fl_X11_64 R0 ?_
                    refine px_iload_n hG dX11_dinv_94 rfl ?_
                    refine al_57 hG dX11_dinv_95 R0 (by omega) (fun x29 ex29 lx29 ux29 => ?_)
                    refine px_ic_le hG dX11_dinv_96 (tgt := 103) (by decide) ⟨by omega, by omega⟩ ⟨by omega, by omega⟩ (fun c30 => ?_) (fun c30 => ?_)
                    · refine px_iconst hG dX11_dinv_103 ?_
                      refine px_weak hG (L2 := [some (.inr (.inr (40, 0))), none, some (.inl v2_2), some (.inl v3_9), none]) ⟨Or.inr rfl, Or.inl rfl, Or.inr rfl, Or.inr rfl, Or.inl rfl, trivial⟩ ?_
                      exact J104_23 0 (by unfold pm_tn; first | rw [if_pos (by omega)] | rw [if_neg (by omega)])
                    · refine px_iconst hG dX11_dinv_99 ?_
                      refine px_goto hG dX11_dinv_100 (tgt := 104) (by decide) ?_
                      refine px_weak hG (L2 := [some (.inr (.inr (40, 0))), none, some (.inl v2_2), some (.inl v3_9), none]) ⟨Or.inr rfl, Or.inl rfl, Or.inr rfl, Or.inr rfl, Or.inl rfl, trivial⟩ ?_
                      exact J104_23 1 (by unfold pm_tn; first | rw [if_pos (by omega)] | rw [if_neg (by omega)])
              refine px_ic_ne hG dX11_dinv_36 (tgt := 58) (by decide) ⟨by omega, by omega⟩ ⟨by omega, by omega⟩ (fun c17 => ?_) (fun c17 => ?_)
              · refine px_iconst hG dX11_dinv_58 ?_
                exact J59_19 0 (by omega)
              · refine px_aload_n hG dX11_dinv_39 rfl ?_
                refine gr_40_20 hG dX11_dinv_40 fl_X11_64 R0 ?_
                refine px_iload_n hG dX11_dinv_43 rfl ?_
                refine al_57 hG dX11_dinv_44 R0 (by omega) (fun x31 ex31 lx31 ux31 => ?_)
                refine px_aload_n hG dX11_dinv_45 rfl ?_
                refine gr_40_20 hG dX11_dinv_46 fl_X11_64 R0 ?_
                refine px_iload_n hG dX11_dinv_49 rfl ?_
                refine al_57 hG dX11_dinv_50 R0 (by omega) (fun x32 ex32 lx32 ux32 => ?_)
                refine px_ic_ge hG dX11_dinv_51 (tgt := 58) (by decide) ⟨by omega, by omega⟩ ⟨by omega, by omega⟩ (fun c33 => ?_) (fun c33 => ?_)
                · refine px_iconst hG dX11_dinv_58 ?_
                  exact J59_19 0 (by omega)
                · refine px_iconst hG dX11_dinv_54 ?_
                  refine px_goto hG dX11_dinv_55 (tgt := 59) (by decide) ?_
                  exact J59_19 1 (by omega)
        exact L16 _ v1_1 (v2_2 + 1) (⟨by omega, ⟨by rw [pm_ei_z (by omega)]; omega, by omega⟩⟩) (Nat.lt_succ_self _)
  exact L4 _ 0 1 (⟨by omega, ⟨rfl, by omega⟩⟩) (Nat.lt_succ_self _))
