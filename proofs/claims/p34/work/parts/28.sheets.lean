/-! ===== sheets, told exactly ===== -/
def pm_SH (a b : Nat) (σ τ : pm_H) (aa ab ac v : Int) : Prop := (v = -1 ∧ (aa < 0 ∨ 3 < aa ∨ ab < 0 ∨ 2 < ab ∨ 20 < ac) ∧ ∀ i : Int, τ a 0 i = σ a 0 i ∧ τ b 0 i = σ b 0 i) ∨ (v = -14 ∧ (0 ≤ aa ∧ aa ≤ 3 ∧ 0 ≤ ab ∧ ab ≤ 2 ∧ ac < 0) ∧ ∀ i : Int, τ a 0 i = σ a 0 i ∧ τ b 0 i = σ b 0 i) ∨
  (v = ac ∧ (0 ≤ aa ∧ aa ≤ 3 ∧ 0 ≤ ab ∧ ab ≤ 2 ∧ 0 ≤ ac ∧ ac ≤ 20) ∧ τ a 0 aa = ab ∧ τ b 0 aa = ac ∧ ∀ i : Int, i ≠ aa → τ a 0 i = σ a 0 i ∧ τ b 0 i = σ b 0 i)
def pm_DR (a b : Nat) (σ τ : pm_H) (aa v : Int) : Prop := ((v = -1 ∧ (aa < 0 ∨ 3 < aa) ∧ ∀ i : Int, τ a 0 i = σ a 0 i) ∨ (v = -11 ∧ (0 ≤ aa ∧ aa ≤ 3) ∧ σ a 0 aa = -1 ∧ ∀ i : Int, τ a 0 i = σ a 0 i) ∨
  (v = σ b 0 aa ∧ (0 ≤ aa ∧ aa ≤ 3) ∧ σ a 0 aa ≠ -1 ∧ τ a 0 aa = -1 ∧ ∀ i : Int, i ≠ aa → τ a 0 i = σ a 0 i)) ∧ ∀ i : Int, τ b 0 i = σ b 0 i
def pm_IT (a b : Nat) (σ : pm_H) (aa ab ac v : Int) : Prop := (v = -1 ∧ (aa < 0 ∨ 3 < aa ∨ ab < 0 ∨ 2 < ab)) ∨ ((0 ≤ aa ∧ aa ≤ 3 ∧ 0 ≤ ab ∧ ab ≤ 2) ∧ ((v = -11 ∧ σ a 0 aa = -1) ∨ (σ a 0 aa ≠ -1 ∧ ((v = -12 ∧ σ a 0 aa ≠ ab) ∨ (σ a 0 aa = ab ∧ ((v = -13 ∧ (ac < 0 ∨ σ b 0 aa - 1 < ac)) ∨ (v = 1 ∧ 0 ≤ ac ∧ ac ≤ σ b 0 aa - 1)))))))
def pm_LE (σ : pm_H) : Prop := ∀ q : Int, 0 ≤ q → q < 4 → σ 36 0 q = σ 64 0 q ∧ σ 37 0 q = σ 65 0 q
theorem pm_SH_in {a b : Nat} {σ τ : pm_H} {aa ab ac v : Int} (h : pm_SH a b σ τ aa ab ac v) : -2147483648 ≤ v ∧ v ≤ 2147483647 := by
  rcases h with ⟨h, _⟩ | ⟨h, _⟩ | ⟨h, h2, _⟩ <;> omega
theorem pm_SH_LE {σ τ υ : pm_H} {aa ab ac v w : Int} (X : pm_SH 36 37 σ τ aa ab ac v) (Y : pm_SH 64 65 τ υ aa ab ac w) (F1 : ∀ i : Int, τ 64 0 i = σ 64 0 i ∧ τ 65 0 i = σ 65 0 i) (F2 : ∀ i : Int, υ 36 0 i = τ 36 0 i ∧ υ 37 0 i = τ 37 0 i) (h : pm_LE σ) : v = w ∧ pm_LE υ := by
  rcases X with ⟨x1, x2, x3⟩ | ⟨x1, x2, x3⟩ | ⟨x1, x2, x3, x4, x5⟩
  · rcases Y with ⟨y1, y2, y3⟩ | ⟨y1, y2, y3⟩ | ⟨y1, y2, y3, y4, y5⟩
    · refine ⟨by omega, fun q a b => ?_⟩
      rw [(F2 q).1, (F2 q).2, (x3 q).1, (x3 q).2, (y3 q).1, (y3 q).2, (F1 q).1, (F1 q).2]
      exact h q a b
    · omega
    · omega
  · rcases Y with ⟨y1, y2, y3⟩ | ⟨y1, y2, y3⟩ | ⟨y1, y2, y3, y4, y5⟩
    · omega
    · refine ⟨by omega, fun q a b => ?_⟩
      rw [(F2 q).1, (F2 q).2, (x3 q).1, (x3 q).2, (y3 q).1, (y3 q).2, (F1 q).1, (F1 q).2]
      exact h q a b
    · omega
  · rcases Y with ⟨y1, y2, y3⟩ | ⟨y1, y2, y3⟩ | ⟨y1, y2, y3, y4, y5⟩
    · omega
    · omega
    · refine ⟨by omega, fun q a b => ?_⟩
      rw [(F2 q).1, (F2 q).2]
      by_cases z : q = aa
      · rw [z, x3, x4, y3, y4]
        exact ⟨rfl, rfl⟩
      · rw [(x5 q z).1, (x5 q z).2, (y5 q z).1, (y5 q z).2, (F1 q).1, (F1 q).2]
        exact h q a b
theorem pm_DR_in {a b : Nat} {σ τ : pm_H} {aa v : Int} (h : pm_DR a b σ τ aa v) (hb : 0 ≤ σ b 0 aa ∧ σ b 0 aa ≤ 20) : -2147483648 ≤ v ∧ v ≤ 2147483647 := by
  rcases h.1 with ⟨h, _⟩ | ⟨h, _⟩ | ⟨h, h2, _⟩ <;> omega
theorem pm_DR_LE {σ τ υ : pm_H} {aa v w : Int} (X : pm_DR 36 37 σ τ aa v) (Y : pm_DR 64 65 τ υ aa w) (F1 : ∀ i : Int, τ 64 0 i = σ 64 0 i ∧ τ 65 0 i = σ 65 0 i) (F2 : ∀ i : Int, υ 36 0 i = τ 36 0 i ∧ υ 37 0 i = τ 37 0 i) (h : pm_LE σ) : v = w ∧ pm_LE υ := by
  obtain ⟨X, x9⟩ := X
  obtain ⟨Y, y9⟩ := Y
  rcases X with ⟨x1, x2, x3⟩ | ⟨x1, x2, x4, x3⟩ | ⟨x1, x2, x4, x5, x3⟩
  · rcases Y with ⟨y1, y2, y3⟩ | ⟨y1, y2, y4, y3⟩ | ⟨y1, y2, y4, y5, y3⟩
    · refine ⟨by omega, fun q a b => ?_⟩
      rw [(F2 q).1, (F2 q).2, x3 q, x9 q, y3 q, y9 q, (F1 q).1, (F1 q).2]
      exact h q a b
    · omega
    · omega
  · have hl := h aa x2.1 (by omega)
    have f := F1 aa
    rcases Y with ⟨y1, y2, y3⟩ | ⟨y1, y2, y4, y3⟩ | ⟨y1, y2, y4, y5, y3⟩
    · omega
    · refine ⟨by omega, fun q a b => ?_⟩
      rw [(F2 q).1, (F2 q).2, x3 q, x9 q, y3 q, y9 q, (F1 q).1, (F1 q).2]
      exact h q a b
    · omega
  · have hl := h aa x2.1 (by omega)
    have f := F1 aa
    rcases Y with ⟨y1, y2, y3⟩ | ⟨y1, y2, y4, y3⟩ | ⟨y1, y2, y4, y5, y3⟩
    · omega
    · omega
    · refine ⟨by omega, fun q a b => ?_⟩
      rw [(F2 q).1, (F2 q).2, x9 q, y9 q, (F1 q).2]
      refine ⟨?_, (h q a b).2⟩
      by_cases z : q = aa
      · rw [z, x5, y5]
      · rw [x3 q z, y3 q z, (F1 q).1]
        exact (h q a b).1
theorem pm_IT_in {a b : Nat} {σ : pm_H} {aa ab ac v : Int} (h : pm_IT a b σ aa ab ac v) : -2147483648 ≤ v ∧ v ≤ 2147483647 := by
  unfold pm_IT at h
  omega
theorem pm_IT_eq {σ τ : pm_H} {aa ab ac v w : Int} (X : pm_IT 36 37 σ aa ab ac v) (Y : pm_IT 64 65 τ aa ab ac w) (F1 : ∀ i : Int, τ 64 0 i = σ 64 0 i ∧ τ 65 0 i = σ 65 0 i) (h : pm_LE σ) : v = w := by
  by_cases z : 0 ≤ aa ∧ aa < 4
  · have hl := h aa z.1 z.2
    have f := F1 aa
    unfold pm_IT at X Y
    omega
  · unfold pm_IT at X Y
    omega

def pre_X10_sheete (as : List pm_V) (n : Nat) (σ : pm_H) : Prop := ∃ aa ab ac : Int, as = [.inr (.inr (0, 0)), .inl aa, .inl ab, .inl ac] ∧ n = 122 ∧ pm_Rng σ ∧ (pm_in aa ∧ pm_in ab ∧ pm_in ac ∧ (σ 3 0 3 ≤ σ 3 0 1 ∧ (σ 3 0 0 = 2 → 0 ≤ σ 3 0 2 ∧ σ 3 0 2 ≤ 9)))
def po_X10_sheete (as : List pm_V) (_ : Nat) (σ : pm_H) (r : Option pm_V) (τ : pm_H) : Prop := ∀ aa ab ac : Int, as = [.inr (.inr (0, 0)), .inl aa, .inl ab, .inl ac] → ∃ v : Int, r = some (.inl v) ∧ pm_Rng τ ∧ pm_Fr [(36, none), (37, none), (38, none)] σ τ ∧ ((τ 3 0 3 ≤ τ 3 0 1 ∧ (τ 3 0 0 = 2 → 0 ≤ τ 3 0 2 ∧ τ 3 0 2 ≤ 9)) ∧ pm_SH 36 37 σ τ aa ab ac v)
set_option maxRecDepth 20000 in
set_option maxHeartbeats 4000000 in
theorem ct_X10_sheete : pm_Ct yX10_sheet cX10_sheet 4 (some .int) 1 0 pre_X10_sheete po_X10_sheete := pm_sound (ini := false) (by decide +kernel) pk_X10_sheet (fun h => absurd h (by decide)) (by
  rintro as n s0 ⟨aa, ab, ac, rfl, rfl, R0, hpre⟩
  refine ⟨by decide, Nat.le_of_ble_eq_true rfl, fun G hG => ?_⟩
  have hG : pm_Rules (RX10, 1, 122, cX10_sheet, -1, (fun _ => 0), false, (some .int), po_X10_sheete [.inr (.inr (0, 0)), .inl aa, .inl ab, .inl ac] 122 s0) G := hG
  show G 0 [some (.inr (.inr (0, 0))), some (.inl aa), some (.inl ab), some (.inl ac)] [] 122 s0
  have B0 := pb_3_0 R0
  have B1 := pb_3_1 R0
  have B2 := pb_3_2 R0
  have B3 := pb_3_3 R0
  refine px_aload_n hG dX10_sheet_0 rfl ?_
  refine gr_0_8 hG dX10_sheet_1 fl_X10_73 R0 ?_
  refine px_iload_n hG dX10_sheet_4 rfl ?_
  refine jv1 hG dX10_sheet_5 ct_X6_hasSheet lk_X10_313 ⟨rfl, rfl⟩ (by decide) ⟨Nat.le_of_ble_eq_true rfl, Nat.le_of_ble_eq_true rfl, Nat.le_of_ble_eq_true rfl⟩ (Nat.le_of_ble_eq_true rfl) ⟨aa, rfl, rfl, R0, by omega⟩ (fun r1 t2 pr1 => ?_)
  obtain ⟨x3, rfl, rfl, br1⟩ := pr1 _ rfl
  show G 8 [some (.inr (.inr (0, 0))), some (.inl aa), some (.inl ab), some (.inl ac)] [.inl x3] 122 s0
  refine px_if_eq hG dX10_sheet_8 (tgt := 28) (by decide) ⟨by omega, by omega⟩ (fun c4 => ?_) (fun c4 => ?_)
  · refine px_iconst hG dX10_sheet_28 ?_
    exact px_iret (st := []) hG dX10_sheet_29 rfl rfl (fun aa_1 ab_1 ac_1 ee => by cases ee; exact ⟨_, rfl, R0, pm_Fr_rf, ⟨by omega, Or.inl ⟨rfl, by omega, fun i => ⟨rfl, rfl⟩⟩⟩⟩)
  · refine px_aload_n hG dX10_sheet_11 rfl ?_
    refine gr_0_8 hG dX10_sheet_12 fl_X10_73 R0 ?_
    refine px_iload_n hG dX10_sheet_15 rfl ?_
    refine jv1 hG dX10_sheet_16 ct_X6_hasLane lk_X10_316 ⟨rfl, rfl⟩ (by decide) ⟨Nat.le_of_ble_eq_true rfl, Nat.le_of_ble_eq_true rfl, Nat.le_of_ble_eq_true rfl⟩ (Nat.le_of_ble_eq_true rfl) ⟨ab, rfl, rfl, R0, by omega⟩ (fun r5 t6 pr5 => ?_)
    obtain ⟨x7, rfl, rfl, br5⟩ := pr5 _ rfl
    show G 19 [some (.inr (.inr (0, 0))), some (.inl aa), some (.inl ab), some (.inl ac)] [.inl x7] 122 s0
    refine px_if_eq hG dX10_sheet_19 (tgt := 28) (by decide) ⟨by omega, by omega⟩ (fun c8 => ?_) (fun c8 => ?_)
    · refine px_iconst hG dX10_sheet_28 ?_
      exact px_iret (st := []) hG dX10_sheet_29 rfl rfl (fun aa_1 ab_1 ac_1 ee => by cases ee; exact ⟨_, rfl, R0, pm_Fr_rf, ⟨by omega, Or.inl ⟨rfl, by omega, fun i => ⟨rfl, rfl⟩⟩⟩⟩)
    · refine px_iload_n hG dX10_sheet_22 rfl ?_
      refine px_bipush hG dX10_sheet_23 (by decide) ?_
      refine px_ic_le hG dX10_sheet_25 (tgt := 30) (by decide) ⟨by omega, by omega⟩ ⟨by omega, by omega⟩ (fun c9 => ?_) (fun c9 => ?_)
      · refine px_iload_n hG dX10_sheet_30 rfl ?_
        refine px_if_ge hG dX10_sheet_31 (tgt := 37) (by decide) ⟨by omega, by omega⟩ (fun c10 => ?_) (fun c10 => ?_)
        · refine px_aload_n hG dX10_sheet_37 rfl ?_
          refine gr_0_8 hG dX10_sheet_38 fl_X10_73 R0 ?_
          refine px_iload_n hG dX10_sheet_41 rfl ?_
          refine px_iload_n hG dX10_sheet_42 rfl ?_
          refine px_iload_n hG dX10_sheet_43 rfl ?_
          refine jv3 hG dX10_sheet_44 ct_X6_renew lk_X10_319 ⟨rfl, rfl⟩ (by decide) ⟨Nat.le_of_ble_eq_true rfl, Nat.le_of_ble_eq_true rfl, Nat.le_of_ble_eq_true rfl⟩ (Nat.le_of_ble_eq_true rfl) ⟨aa, ab, ac, rfl, rfl, R0, by omega⟩ (fun r11 t13 pr11 => ?_)
          obtain ⟨rfl, Rt13, Ft13, br11⟩ := pr11 _ _ _ rfl
          have Ff15 := pm_Fr_mono Ft13 (M := [(36, none), (37, none), (38, none)]) rfl
          have jj16 := Ft13 3 0 0 rfl
          have jj17 := Ft13 3 0 1 rfl
          have jj18 := Ft13 3 0 2 rfl
          have jj19 := Ft13 3 0 3 rfl
          show G 47 [some (.inr (.inr (0, 0))), some (.inl aa), some (.inl ab), some (.inl ac)] [] 122 t13
          have RB := br11
          refine px_iload_n hG dX10_sheet_47 rfl ?_
          have jj20 := Ff15 3 0 0 rfl
          have jj21 := Ff15 3 0 1 rfl
          have jj22 := Ff15 3 0 2 rfl
          have jj23 := Ff15 3 0 3 rfl
          exact px_iret (st := []) hG dX10_sheet_48 rfl rfl (fun aa_1 ab_1 ac_1 ee => by cases ee; exact ⟨_, rfl, Rt13, Ff15, ⟨by omega, Or.inr (Or.inr ⟨rfl, by omega, RB.1, RB.2.1, RB.2.2⟩)⟩⟩)
        · refine px_bipush hG dX10_sheet_34 (by decide) ?_
          exact px_iret (st := []) hG dX10_sheet_36 rfl rfl (fun aa_1 ab_1 ac_1 ee => by cases ee; exact ⟨_, rfl, R0, pm_Fr_rf, ⟨by omega, Or.inr (Or.inl ⟨rfl, by omega, fun i => ⟨rfl, rfl⟩⟩)⟩⟩)
      · refine px_iconst hG dX10_sheet_28 ?_
        exact px_iret (st := []) hG dX10_sheet_29 rfl rfl (fun aa_1 ab_1 ac_1 ee => by cases ee; exact ⟨_, rfl, R0, pm_Fr_rf, ⟨by omega, Or.inl ⟨rfl, by omega, fun i => ⟨rfl, rfl⟩⟩⟩⟩))
def pre_X10_drope (as : List pm_V) (n : Nat) (σ : pm_H) : Prop := ∃ aa : Int, as = [.inr (.inr (0, 0)), .inl aa] ∧ n = 122 ∧ pm_Rng σ ∧ (pm_in aa ∧ (σ 3 0 3 ≤ σ 3 0 1 ∧ (σ 3 0 0 = 2 → 0 ≤ σ 3 0 2 ∧ σ 3 0 2 ≤ 9)))
def po_X10_drope (as : List pm_V) (_ : Nat) (σ : pm_H) (r : Option pm_V) (τ : pm_H) : Prop := ∀ aa : Int, as = [.inr (.inr (0, 0)), .inl aa] → ∃ v : Int, r = some (.inl v) ∧ pm_Rng τ ∧ pm_Fr [(36, none)] σ τ ∧ ((τ 3 0 3 ≤ τ 3 0 1 ∧ (τ 3 0 0 = 2 → 0 ≤ τ 3 0 2 ∧ τ 3 0 2 ≤ 9)) ∧ pm_DR 36 37 σ τ aa v)
set_option maxRecDepth 20000 in
set_option maxHeartbeats 4000000 in
theorem ct_X10_drope : pm_Ct yX10_drop cX10_drop 2 (some .int) 1 0 pre_X10_drope po_X10_drope := pm_sound (ini := false) (by decide +kernel) pk_X10_drop (fun h => absurd h (by decide)) (by
  rintro as n s0 ⟨aa, rfl, rfl, R0, hpre⟩
  refine ⟨by decide, Nat.le_of_ble_eq_true rfl, fun G hG => ?_⟩
  have hG : pm_Rules (RX10, 1, 122, cX10_drop, -1, (fun _ => 0), false, (some .int), po_X10_drope [.inr (.inr (0, 0)), .inl aa] 122 s0) G := hG
  show G 0 [some (.inr (.inr (0, 0))), some (.inl aa)] [] 122 s0
  have B0 := pb_3_0 R0
  have B1 := pb_3_1 R0
  have B2 := pb_3_2 R0
  have B3 := pb_3_3 R0
  refine px_aload_n hG dX10_drop_0 rfl ?_
  refine gr_0_8 hG dX10_drop_1 fl_X10_73 R0 ?_
  refine px_iload_n hG dX10_drop_4 rfl ?_
  refine jv1 hG dX10_drop_5 ct_X6_hasSheet lk_X10_313 ⟨rfl, rfl⟩ (by decide) ⟨Nat.le_of_ble_eq_true rfl, Nat.le_of_ble_eq_true rfl, Nat.le_of_ble_eq_true rfl⟩ (Nat.le_of_ble_eq_true rfl) ⟨aa, rfl, rfl, R0, by omega⟩ (fun r1 t2 pr1 => ?_)
  obtain ⟨x3, rfl, rfl, br1⟩ := pr1 _ rfl
  show G 8 [some (.inr (.inr (0, 0))), some (.inl aa)] [.inl x3] 122 s0
  refine px_if_ne hG dX10_drop_8 (tgt := 13) (by decide) ⟨by omega, by omega⟩ (fun c4 => ?_) (fun c4 => ?_)
  · refine px_aload_n hG dX10_drop_13 rfl ?_
    refine gr_0_8 hG dX10_drop_14 fl_X10_73 R0 ?_
    refine px_iload_n hG dX10_drop_17 rfl ?_
    refine jv1 hG dX10_drop_18 ct_X6_holdsNothing lk_X10_322 ⟨rfl, rfl⟩ (by decide) ⟨Nat.le_of_ble_eq_true rfl, Nat.le_of_ble_eq_true rfl, Nat.le_of_ble_eq_true rfl⟩ (Nat.le_of_ble_eq_true rfl) ⟨aa, rfl, rfl, R0, by omega⟩ (fun r5 t6 pr5 => ?_)
    obtain ⟨x7, rfl, rfl, br5⟩ := pr5 _ rfl
    show G 21 [some (.inr (.inr (0, 0))), some (.inl aa)] [.inl x7] 122 s0
    refine px_if_eq hG dX10_drop_21 (tgt := 29) (by decide) ⟨by omega, by omega⟩ (fun c8 => ?_) (fun c8 => ?_)
    · refine px_aload_n hG dX10_drop_29 rfl ?_
      refine gr_0_8 hG dX10_drop_30 fl_X10_73 R0 ?_
      refine px_iload_n hG dX10_drop_33 rfl ?_
      refine jv1 hG dX10_drop_34 ct_X6_remove lk_X10_325 ⟨rfl, rfl⟩ (by decide) ⟨Nat.le_of_ble_eq_true rfl, Nat.le_of_ble_eq_true rfl, Nat.le_of_ble_eq_true rfl⟩ (Nat.le_of_ble_eq_true rfl) ⟨aa, rfl, rfl, R0, by omega⟩ (fun r9 t11 pr9 => ?_)
      obtain ⟨x12, rfl, Rt11, Ft11, br9⟩ := pr9 _ rfl
      have Ff13 := pm_Fr_mono Ft11 (M := [(36, none)]) rfl
      have jj14 := Ft11 3 0 0 rfl
      have jj15 := Ft11 3 0 1 rfl
      have jj16 := Ft11 3 0 2 rfl
      have jj17 := Ft11 3 0 3 rfl
      show G 37 [some (.inr (.inr (0, 0))), some (.inl aa)] [.inl x12] 122 t11
      have RB := br9
      have jj18 := Ff13 3 0 0 rfl
      have jj19 := Ff13 3 0 1 rfl
      have jj20 := Ff13 3 0 2 rfl
      have jj21 := Ff13 3 0 3 rfl
      exact px_iret (st := []) hG dX10_drop_37 rfl rfl (fun aa_1 ee => by cases ee; exact ⟨_, rfl, Rt11, Ff13, by first | exact ⟨by omega, Or.inr (Or.inr ⟨RB.1, by omega, by omega, RB.2.1, RB.2.2.1⟩), fun i => Ff13 37 0 i rfl⟩ | exact ⟨by omega, Or.inr (Or.inl ⟨rfl, by omega, by omega, fun i => rfl⟩), fun i => rfl⟩⟩)
    · refine px_bipush hG dX10_drop_24 (by decide) ?_
      refine px_goto hG dX10_drop_26 (tgt := 37) (by decide) ?_
      exact px_iret (st := []) hG dX10_drop_37 rfl rfl (fun aa_1 ee => by cases ee; exact ⟨_, rfl, R0, pm_Fr_rf, by first | exact ⟨by omega, Or.inr (Or.inr ⟨RB.1, by omega, by omega, RB.2.1, RB.2.2.1⟩), fun i => pm_Fr_rf 37 0 i rfl⟩ | exact ⟨by omega, Or.inr (Or.inl ⟨rfl, by omega, by omega, fun i => rfl⟩), fun i => rfl⟩⟩)
  · refine px_iconst hG dX10_drop_11 ?_
    exact px_iret (st := []) hG dX10_drop_12 rfl rfl (fun aa_1 ee => by cases ee; exact ⟨_, rfl, R0, pm_Fr_rf, ⟨by omega, Or.inl ⟨rfl, by omega, fun i => rfl⟩, fun i => rfl⟩⟩))
def pre_X10_iteme (as : List pm_V) (n : Nat) (σ : pm_H) : Prop := ∃ aa ab ac ad : Int, as = [.inr (.inr (0, 0)), .inl aa, .inl ab, .inl ac, .inl ad] ∧ n = 122 ∧ pm_Rng σ ∧ (pm_in aa ∧ pm_in ab ∧ pm_in ac ∧ pm_in ad ∧ (σ 3 0 3 ≤ σ 3 0 1 ∧ (σ 3 0 0 = 2 → 0 ≤ σ 3 0 2 ∧ σ 3 0 2 ≤ 9)))
def po_X10_iteme (as : List pm_V) (_ : Nat) (σ : pm_H) (r : Option pm_V) (τ : pm_H) : Prop := ∀ aa ab ac ad : Int, as = [.inr (.inr (0, 0)), .inl aa, .inl ab, .inl ac, .inl ad] → ∃ v : Int, r = some (.inl v) ∧ pm_Rng τ ∧ pm_Fr [(38, none)] σ τ ∧ ((τ 3 0 3 ≤ τ 3 0 1 ∧ (τ 3 0 0 = 2 → 0 ≤ τ 3 0 2 ∧ τ 3 0 2 ≤ 9)) ∧ pm_IT 36 37 σ aa ab ac v)
set_option maxRecDepth 20000 in
set_option maxHeartbeats 4000000 in
theorem ct_X10_iteme : pm_Ct yX10_item cX10_item 6 (some .int) 2 0 pre_X10_iteme po_X10_iteme := pm_sound (ini := false) (by decide +kernel) pk_X10_item (fun h => absurd h (by decide)) (by
  rintro as n s0 ⟨aa, ab, ac, ad, rfl, rfl, R0, hpre⟩
  refine ⟨by decide, Nat.le_of_ble_eq_true rfl, fun G hG => ?_⟩
  have hG : pm_Rules (RX10, 2, 122, cX10_item, -1, (fun _ => 0), false, (some .int), po_X10_iteme [.inr (.inr (0, 0)), .inl aa, .inl ab, .inl ac, .inl ad] 122 s0) G := hG
  show G 0 [some (.inr (.inr (0, 0))), some (.inl aa), some (.inl ab), some (.inl ac), some (.inl ad), none] [] 122 s0
  have B0 := pb_3_0 R0
  have B1 := pb_3_1 R0
  have B2 := pb_3_2 R0
  have B3 := pb_3_3 R0
  refine px_aload_n hG dX10_item_0 rfl ?_
  refine gr_0_8 hG dX10_item_1 fl_X10_73 R0 ?_
  refine px_iload_n hG dX10_item_4 rfl ?_
  refine px_iload_n hG dX10_item_5 rfl ?_
  refine px_iload_n hG dX10_item_6 rfl ?_
  refine px_iconst hG dX10_item_7 ?_
  refine jv4 hG dX10_item_8 ct_X6_refusal lk_X10_252 ⟨rfl, rfl⟩ (by decide) ⟨Nat.le_of_ble_eq_true rfl, Nat.le_of_ble_eq_true rfl, Nat.le_of_ble_eq_true rfl⟩ (Nat.le_of_ble_eq_true rfl) ⟨aa, ab, ac, 1, rfl, rfl, R0, by omega⟩ (fun r1 t2 pr1 => ?_)
  obtain ⟨x3, rfl, rfl, br1⟩ := pr1 _ _ _ _ rfl
  show G 11 [some (.inr (.inr (0, 0))), some (.inl aa), some (.inl ab), some (.inl ac), some (.inl ad), none] [.inl x3] 122 s0
  refine px_istore hG dX10_item_11 (Nat.le_of_ble_eq_true rfl) (L2 := [some (.inr (.inr (0, 0))), some (.inl aa), some (.inl ab), some (.inl ac), some (.inl ad), some (.inl x3)]) rfl ?_
  refine px_iload hG dX10_item_13 rfl ?_
  refine px_if_eq hG dX10_item_15 (tgt := 21) (by decide) ⟨by omega, by omega⟩ (fun c4 => ?_) (fun c4 => ?_)
  · refine px_aload_n hG dX10_item_21 rfl ?_
    refine gr_0_8 hG dX10_item_22 fl_X10_73 R0 ?_
    refine px_iload_n hG dX10_item_25 rfl ?_
    refine px_iload_n hG dX10_item_26 rfl ?_
    refine px_iload hG dX10_item_27 rfl ?_
    refine jv3 hG dX10_item_29 ct_X6_put lk_X10_328 ⟨rfl, rfl⟩ (by decide) ⟨Nat.le_of_ble_eq_true rfl, Nat.le_of_ble_eq_true rfl, Nat.le_of_ble_eq_true rfl⟩ (Nat.le_of_ble_eq_true rfl) ⟨aa, ac, ad, rfl, rfl, R0, by omega⟩ (fun r5 t7 pr5 => ?_)
    obtain ⟨rfl, Rt7, Ft7⟩ := pr5 _ _ _ rfl
    have Ff9 := pm_Fr_mono Ft7 (M := [(38, none)]) rfl
    have jj10 := Ft7 3 0 0 rfl
    have jj11 := Ft7 3 0 1 rfl
    have jj12 := Ft7 3 0 2 rfl
    have jj13 := Ft7 3 0 3 rfl
    show G 32 [some (.inr (.inr (0, 0))), some (.inl aa), some (.inl ab), some (.inl ac), some (.inl ad), some (.inl x3)] [] 122 t7
    refine px_iconst hG dX10_item_32 ?_
    have jj14 := Ff9 3 0 0 rfl
    have jj15 := Ff9 3 0 1 rfl
    have jj16 := Ff9 3 0 2 rfl
    have jj17 := Ff9 3 0 3 rfl
    exact px_iret (st := []) hG dX10_item_33 rfl rfl (fun aa_1 ab_1 ac_1 ad_1 ee => by cases ee; exact ⟨_, rfl, Rt7, Ff9, ⟨by omega, by unfold pm_IT; omega⟩⟩)
  · refine px_iload hG dX10_item_18 rfl ?_
    exact px_iret (st := []) hG dX10_item_20 rfl rfl (fun aa_1 ab_1 ac_1 ad_1 ee => by cases ee; exact ⟨_, rfl, R0, pm_Fr_rf, ⟨by omega, by unfold pm_IT; omega⟩⟩))
def pre_X11_sheete (as : List pm_V) (n : Nat) (σ : pm_H) : Prop := ∃ aa ab ac : Int, as = [.inr (.inr (40, 0)), .inl aa, .inl ab, .inl ac] ∧ n = 122 ∧ pm_Rng σ ∧ ((pm_in aa ∧ pm_in ab ∧ pm_in ac) ∧ pm_J2 σ)
def po_X11_sheete (as : List pm_V) (_ : Nat) (σ : pm_H) (r : Option pm_V) (τ : pm_H) : Prop := ∀ aa ab ac : Int, as = [.inr (.inr (40, 0)), .inl aa, .inl ab, .inl ac] → ∃ v : Int, r = some (.inl v) ∧ pm_Rng τ ∧ pm_Fr [(64, none), (65, none), (66, none)] σ τ ∧ (pm_SH 64 65 σ τ aa ab ac v)
set_option maxRecDepth 20000 in
set_option maxHeartbeats 4000000 in
theorem ct_X11_sheete : pm_Ct yX11_sheet cX11_sheet 5 (some .int) 2 0 pre_X11_sheete po_X11_sheete := pm_sound (ini := false) (by decide +kernel) pk_X11_sheet (fun h => absurd h (by decide)) (by
  rintro as n s0 ⟨aa, ab, ac, rfl, rfl, R0, hpre⟩
  refine ⟨by decide, Nat.le_of_ble_eq_true rfl, fun G hG => ?_⟩
  have hG : pm_Rules (RX11, 2, 122, cX11_sheet, -1, (fun _ => 0), false, (some .int), po_X11_sheete [.inr (.inr (40, 0)), .inl aa, .inl ab, .inl ac] 122 s0) G := hG
  show G 0 [some (.inr (.inr (40, 0))), some (.inl aa), some (.inl ab), some (.inl ac), none] [] 122 s0
  have B0 := pb_40_0 R0
  have B1 := pb_40_1 R0
  have B2 := pb_40_2 R0
  have B3 := pb_40_3 R0
  have J2 := hpre.2
  have HP := hpre.1
  have JK := J2.1
  have JW := J2.2
  refine px_iload_n hG dX11_sheet_0 rfl ?_
  refine px_iload_n hG dX11_sheet_1 rfl ?_
  refine js2 hG dX11_sheet_2 ct_X11_isSheet lk_X11_211 ⟨Nat.le_of_ble_eq_true rfl, Nat.le_of_ble_eq_true rfl, Nat.le_of_ble_eq_true rfl⟩ (Nat.le_of_ble_eq_true rfl) ⟨aa, ab, rfl, rfl, R0, by omega⟩ (fun r1 t2 pr1 => ?_)
  obtain ⟨x3, rfl, rfl, br1⟩ := pr1 _ _ rfl
  show G 5 [some (.inr (.inr (40, 0))), some (.inl aa), some (.inl ab), some (.inl ac), none] [.inl x3] 122 s0
  refine px_if_eq hG dX11_sheet_5 (tgt := 14) (by decide) ⟨by omega, by omega⟩ (fun c4 => ?_) (fun c4 => ?_)
  · refine px_iconst hG dX11_sheet_14 ?_
    exact px_iret (st := []) hG dX11_sheet_15 rfl rfl (fun aa_1 ab_1 ac_1 ee => by cases ee; exact ⟨_, rfl, R0, pm_Fr_rf, Or.inl ⟨rfl, by omega, fun i => ⟨rfl, rfl⟩⟩⟩)
  · refine px_iload_n hG dX11_sheet_8 rfl ?_
    refine px_bipush hG dX11_sheet_9 (by decide) ?_
    refine px_ic_le hG dX11_sheet_11 (tgt := 16) (by decide) ⟨by omega, by omega⟩ ⟨by omega, by omega⟩ (fun c5 => ?_) (fun c5 => ?_)
    · refine px_iload_n hG dX11_sheet_16 rfl ?_
      refine px_if_ge hG dX11_sheet_17 (tgt := 23) (by decide) ⟨by omega, by omega⟩ (fun c6 => ?_) (fun c6 => ?_)
      · refine px_aload_n hG dX11_sheet_23 rfl ?_
        refine gr_40_27 hG dX11_sheet_24 fl_X11_85 R0 ?_
        refine px_iload_n hG dX11_sheet_27 rfl ?_
        refine px_iload_n hG dX11_sheet_28 rfl ?_
        refine as_64 hG dX11_sheet_29 R0 (by omega) (by omega) (fun s7 qs7 Rs7 => ?_)
        have Fs7 := pm_Fr_up ((pm_Fr_rf : pm_Fr [(64, none), (65, none), (66, none)] s0 s0)) qs7 (M := [(64, none), (65, none), (66, none)]) rfl
        have jj8 := pm_nec qs7 (c' := 40) (r' := 0) (i' := 0) (by decide)
        have jj9 := pm_nec qs7 (c' := 40) (r' := 0) (i' := 1) (by decide)
        have jj10 := pm_nec qs7 (c' := 40) (r' := 0) (i' := 2) (by decide)
        have jj11 := pm_nec qs7 (c' := 40) (r' := 0) (i' := 3) (by decide)
        have E1 := qs7
        refine px_aload_n hG dX11_sheet_30 rfl ?_
        refine gr_40_28 hG dX11_sheet_31 fl_X11_88 Rs7 ?_
        refine px_iload_n hG dX11_sheet_34 rfl ?_
        refine px_iload_n hG dX11_sheet_35 rfl ?_
        refine as_65 hG dX11_sheet_36 Rs7 (by omega) (by omega) (fun s12 qs12 Rs12 => ?_)
        have Fs12 := pm_Fr_up (Fs7) qs12 (M := [(64, none), (65, none), (66, none)]) rfl
        have jj13 := pm_nec qs12 (c' := 40) (r' := 0) (i' := 0) (by decide)
        have jj14 := pm_nec qs12 (c' := 40) (r' := 0) (i' := 1) (by decide)
        have jj15 := pm_nec qs12 (c' := 40) (r' := 0) (i' := 2) (by decide)
        have jj16 := pm_nec qs12 (c' := 40) (r' := 0) (i' := 3) (by decide)
        have E2 := qs12
        refine px_iconst hG dX11_sheet_37 ?_
        refine px_istore hG dX11_sheet_38 (Nat.le_of_ble_eq_true rfl) (L2 := [some (.inr (.inr (40, 0))), some (.inl aa), some (.inl ab), some (.inl ac), some (.inl 0)]) rfl ?_
        have L40 : ∀ (N : Nat) (v4_17 : Int) (s18 : pm_H), pm_Rng s18 → pm_Fr [(64, none), (65, none), (66, none)] s0 s18 → ((0 ≤ v4_17 ∧ v4_17 ≤ 10000) ∧ (s18 64 0 aa = ab ∧ s18 65 0 aa = ac ∧ ∀ i : Int, i ≠ aa → s18 64 0 i = s0 64 0 i ∧ s18 65 0 i = s0 65 0 i)) → (10001 - v4_17).toNat < N → G 40 [some (.inr (.inr (40, 0))), some (.inl aa), none, some (.inl ac), some (.inl v4_17)] [] 122 s18 := by
          intro N
          induction N with
          | zero => intro v4_17 s18 R19 F20 inv22 hm23; exact absurd hm23 (Nat.not_lt_zero _)
          | succ N ih21 =>
            intro v4_17 s18 R19 F20 inv22 hm23
            have jj24 := F20 40 0 0 rfl
            have jj25 := F20 40 0 1 rfl
            have jj26 := F20 40 0 2 rfl
            have jj27 := F20 40 0 3 rfl
            have U1 := (inv22.2).1
            have U2 := (inv22.2).2.1
            have U3 := (inv22.2).2.2
            refine px_iload hG dX11_sheet_40 rfl ?_
            refine px_bipush hG dX11_sheet_42 (by decide) ?_
            refine px_ic_ge hG dX11_sheet_44 (tgt := 66) (by decide) ⟨by omega, by omega⟩ ⟨by omega, by omega⟩ (fun c28 => ?_) (fun c28 => ?_)
            · refine px_iload_n hG dX11_sheet_66 rfl ?_
              have jj29 := F20 40 0 0 rfl
              have jj30 := F20 40 0 1 rfl
              have jj31 := F20 40 0 2 rfl
              have jj32 := F20 40 0 3 rfl
              exact px_iret (st := []) hG dX11_sheet_67 rfl rfl (fun aa_1 ab_1 ac_1 ee => by cases ee; exact ⟨_, rfl, R19, F20, Or.inr (Or.inr ⟨rfl, by omega, U1, U2, U3⟩)⟩)
            · refine px_aload_n hG dX11_sheet_47 rfl ?_
              refine gr_40_29 hG dX11_sheet_48 fl_X11_91 R19 ?_
              refine px_bipush hG dX11_sheet_51 (by decide) ?_
              refine px_iload_n hG dX11_sheet_53 rfl ?_
              refine px_imul hG dX11_sheet_54 ?_
              refine px_iload hG dX11_sheet_55 rfl ?_
              refine px_iadd hG dX11_sheet_57 ?_
              refine px_iconst hG dX11_sheet_58 ?_
              refine as_66 hG dX11_sheet_59 R19 (by omega) (fun s33 qs33 Rs33 => ?_)
              have Fs33 := pm_Fr_up (F20) qs33 (M := [(64, none), (65, none), (66, none)]) rfl
              have jj34 := pm_nec qs33 (c' := 40) (r' := 0) (i' := 0) (by decide)
              have jj35 := pm_nec qs33 (c' := 40) (r' := 0) (i' := 1) (by decide)
              have jj36 := pm_nec qs33 (c' := 40) (r' := 0) (i' := 2) (by decide)
              have jj37 := pm_nec qs33 (c' := 40) (r' := 0) (i' := 3) (by decide)
              have E3 := qs33
              refine px_iinc hG dX11_sheet_60 (Nat.le_of_ble_eq_true rfl) rfl (L2 := [some (.inr (.inr (40, 0))), some (.inl aa), none, some (.inl ac), some (.inl (v4_17 + 1))]) rfl ?_
              refine px_goto hG dX11_sheet_63 (tgt := 40) (by decide) ?_
              exact ih21 (v4_17 + 1) s33 Rs33 Fs33 (⟨by omega, ⟨(pm_nec E3 (by decide)).trans U1, (pm_nec E3 (by decide)).trans U2, fun i z => ⟨(pm_nec E3 (by decide)).trans (U3 i z).1, (pm_nec E3 (by decide)).trans (U3 i z).2⟩⟩⟩) (by omega)
        refine px_weak hG (L2 := [some (.inr (.inr (40, 0))), some (.inl aa), none, some (.inl ac), some (.inl 0)]) ⟨Or.inr rfl, Or.inr rfl, Or.inl rfl, Or.inr rfl, Or.inr rfl, trivial⟩ ?_
        exact L40 _ 0 s12 Rs12 Fs12 (⟨by omega, ⟨(pm_nec E2 (by decide)).trans (pm_at E1), pm_at E2, fun i z => ⟨(pm_nec E2 (by decide)).trans (pm_nei E1 z), (pm_nei E2 z).trans (pm_nec E1 (by decide))⟩⟩⟩) (Nat.lt_succ_self _)
      · refine px_bipush hG dX11_sheet_20 (by decide) ?_
        exact px_iret (st := []) hG dX11_sheet_22 rfl rfl (fun aa_1 ab_1 ac_1 ee => by cases ee; exact ⟨_, rfl, R0, pm_Fr_rf, Or.inr (Or.inl ⟨rfl, by omega, fun i => ⟨rfl, rfl⟩⟩)⟩)
    · refine px_iconst hG dX11_sheet_14 ?_
      exact px_iret (st := []) hG dX11_sheet_15 rfl rfl (fun aa_1 ab_1 ac_1 ee => by cases ee; exact ⟨_, rfl, R0, pm_Fr_rf, Or.inl ⟨rfl, by omega, fun i => ⟨rfl, rfl⟩⟩⟩))
def pre_X11_drope (as : List pm_V) (n : Nat) (σ : pm_H) : Prop := ∃ aa : Int, as = [.inr (.inr (40, 0)), .inl aa] ∧ n = 122 ∧ pm_Rng σ ∧ ((pm_in aa) ∧ pm_J2 σ)
def po_X11_drope (as : List pm_V) (_ : Nat) (σ : pm_H) (r : Option pm_V) (τ : pm_H) : Prop := ∀ aa : Int, as = [.inr (.inr (40, 0)), .inl aa] → ∃ v : Int, r = some (.inl v) ∧ pm_Rng τ ∧ pm_Fr [(64, none)] σ τ ∧ (pm_DR 64 65 σ τ aa v)
set_option maxRecDepth 20000 in
set_option maxHeartbeats 4000000 in
theorem ct_X11_drope : pm_Ct yX11_drop cX11_drop 2 (some .int) 1 0 pre_X11_drope po_X11_drope := pm_sound (ini := false) (by decide +kernel) pk_X11_drop (fun h => absurd h (by decide)) (by
  rintro as n s0 ⟨aa, rfl, rfl, R0, hpre⟩
  refine ⟨by decide, Nat.le_of_ble_eq_true rfl, fun G hG => ?_⟩
  have hG : pm_Rules (RX11, 1, 122, cX11_drop, -1, (fun _ => 0), false, (some .int), po_X11_drope [.inr (.inr (40, 0)), .inl aa] 122 s0) G := hG
  show G 0 [some (.inr (.inr (40, 0))), some (.inl aa)] [] 122 s0
  have B0 := pb_40_0 R0
  have B1 := pb_40_1 R0
  have B2 := pb_40_2 R0
  have B3 := pb_40_3 R0
  have J2 := hpre.2
  have HP := hpre.1
  have JK := J2.1
  have JW := J2.2
  refine px_iload_n hG dX11_drop_0 rfl ?_
  refine px_i2l hG dX11_drop_1 ⟨by omega, by omega⟩ ?_
  refine px_lconst hG dX11_drop_2 ?_
  show G 3 [some (.inr (.inr (40, 0))), some (.inl aa)] [.inr (.inl 0), .inr (.inl aa)] 122 s0
  refine px_ldc2 hG dX11_drop_3 cn_X11_254 ?_
  show G 6 [some (.inr (.inr (40, 0))), some (.inl aa)] [.inr (.inl 3), .inr (.inl 0), .inr (.inl aa)] 122 s0
  refine js3 hG dX11_drop_6 ct_X11_in lk_X11_96 ⟨Nat.le_of_ble_eq_true rfl, Nat.le_of_ble_eq_true rfl, Nat.le_of_ble_eq_true rfl⟩ (Nat.le_of_ble_eq_true rfl) ⟨aa, 0, 3, rfl, rfl, R0, by omega⟩ (fun r1 t2 pr1 => ?_)
  obtain ⟨x3, rfl, rfl, br1⟩ := pr1 _ _ _ rfl
  show G 9 [some (.inr (.inr (40, 0))), some (.inl aa)] [.inl x3] 122 s0
  refine px_if_ne hG dX11_drop_9 (tgt := 14) (by decide) ⟨by omega, by omega⟩ (fun c4 => ?_) (fun c4 => ?_)
  · refine px_aload_n hG dX11_drop_14 rfl ?_
    refine gr_40_27 hG dX11_drop_15 fl_X11_85 R0 ?_
    refine px_iload_n hG dX11_drop_18 rfl ?_
    refine al_64 hG dX11_drop_19 R0 (by omega) (fun x5 ex5 lx5 ux5 => ?_)
    refine px_if_ge hG dX11_drop_20 (tgt := 26) (by decide) ⟨by omega, by omega⟩ (fun c6 => ?_) (fun c6 => ?_)
    · refine px_aload_n hG dX11_drop_26 rfl ?_
      refine gr_40_27 hG dX11_drop_27 fl_X11_85 R0 ?_
      refine px_iload_n hG dX11_drop_30 rfl ?_
      refine px_iconst hG dX11_drop_31 ?_
      refine as_64 hG dX11_drop_32 R0 (by omega) (by omega) (fun s7 qs7 Rs7 => ?_)
      have Fs7 := pm_Fr_up ((pm_Fr_rf : pm_Fr [(64, none)] s0 s0)) qs7 (M := [(64, none)]) rfl
      have jj8 := pm_nec qs7 (c' := 40) (r' := 0) (i' := 0) (by decide)
      have jj9 := pm_nec qs7 (c' := 40) (r' := 0) (i' := 1) (by decide)
      have jj10 := pm_nec qs7 (c' := 40) (r' := 0) (i' := 2) (by decide)
      have jj11 := pm_nec qs7 (c' := 40) (r' := 0) (i' := 3) (by decide)
      have E := qs7
      refine px_aload_n hG dX11_drop_33 rfl ?_
      refine gr_40_28 hG dX11_drop_34 fl_X11_88 Rs7 ?_
      refine px_iload_n hG dX11_drop_37 rfl ?_
      refine al_65 hG dX11_drop_38 Rs7 (by omega) (fun x12 ex12 lx12 ux12 => ?_)
      have X := ex12
      have X2 : x12 = s0 65 0 aa := by rw [← X]; exact pm_nec E (by decide)
      have jj13 := Fs7 40 0 0 rfl
      have jj14 := Fs7 40 0 1 rfl
      have jj15 := Fs7 40 0 2 rfl
      have jj16 := Fs7 40 0 3 rfl
      exact px_iret (st := []) hG dX11_drop_39 rfl rfl (fun aa_1 ee => by cases ee; exact ⟨_, rfl, Rs7, Fs7, ⟨Or.inr (Or.inr ⟨X2, by omega, by omega, pm_at E, fun i z => pm_nei E z⟩), fun i => pm_nec E (by decide)⟩⟩)
    · refine px_bipush hG dX11_drop_23 (by decide) ?_
      exact px_iret (st := []) hG dX11_drop_25 rfl rfl (fun aa_1 ee => by cases ee; exact ⟨_, rfl, R0, pm_Fr_rf, ⟨Or.inr (Or.inl ⟨rfl, by omega, by omega, fun i => rfl⟩), fun i => rfl⟩⟩)
  · refine px_iconst hG dX11_drop_12 ?_
    exact px_iret (st := []) hG dX11_drop_13 rfl rfl (fun aa_1 ee => by cases ee; exact ⟨_, rfl, R0, pm_Fr_rf, ⟨Or.inl ⟨rfl, by omega, fun i => rfl⟩, fun i => rfl⟩⟩))
def pre_X11_iteme (as : List pm_V) (n : Nat) (σ : pm_H) : Prop := ∃ aa ab ac ad : Int, as = [.inr (.inr (40, 0)), .inl aa, .inl ab, .inl ac, .inl ad] ∧ n = 122 ∧ pm_Rng σ ∧ ((pm_in aa ∧ pm_in ab ∧ pm_in ac ∧ pm_in ad) ∧ pm_J2 σ)
def po_X11_iteme (as : List pm_V) (_ : Nat) (σ : pm_H) (r : Option pm_V) (τ : pm_H) : Prop := ∀ aa ab ac ad : Int, as = [.inr (.inr (40, 0)), .inl aa, .inl ab, .inl ac, .inl ad] → ∃ v : Int, r = some (.inl v) ∧ pm_Rng τ ∧ pm_Fr [(66, none)] σ τ ∧ (pm_IT 64 65 σ aa ab ac v)
set_option maxRecDepth 20000 in
set_option maxHeartbeats 4000000 in
theorem ct_X11_iteme : pm_Ct yX11_item cX11_item 6 (some .int) 2 0 pre_X11_iteme po_X11_iteme := pm_sound (ini := false) (by decide +kernel) pk_X11_item (fun h => absurd h (by decide)) (by
  rintro as n s0 ⟨aa, ab, ac, ad, rfl, rfl, R0, hpre⟩
  refine ⟨by decide, Nat.le_of_ble_eq_true rfl, fun G hG => ?_⟩
  have hG : pm_Rules (RX11, 2, 122, cX11_item, -1, (fun _ => 0), false, (some .int), po_X11_iteme [.inr (.inr (40, 0)), .inl aa, .inl ab, .inl ac, .inl ad] 122 s0) G := hG
  show G 0 [some (.inr (.inr (40, 0))), some (.inl aa), some (.inl ab), some (.inl ac), some (.inl ad), none] [] 122 s0
  have B0 := pb_40_0 R0
  have B1 := pb_40_1 R0
  have B2 := pb_40_2 R0
  have B3 := pb_40_3 R0
  have J2 := hpre.2
  have HP := hpre.1
  have JK := J2.1
  have JW := J2.2
  refine px_iload_n hG dX11_item_0 rfl ?_
  refine px_iload_n hG dX11_item_1 rfl ?_
  refine js2 hG dX11_item_2 ct_X11_isSheet lk_X11_211 ⟨Nat.le_of_ble_eq_true rfl, Nat.le_of_ble_eq_true rfl, Nat.le_of_ble_eq_true rfl⟩ (Nat.le_of_ble_eq_true rfl) ⟨aa, ab, rfl, rfl, R0, by omega⟩ (fun r1 t2 pr1 => ?_)
  obtain ⟨x3, rfl, rfl, br1⟩ := pr1 _ _ rfl
  show G 5 [some (.inr (.inr (40, 0))), some (.inl aa), some (.inl ab), some (.inl ac), some (.inl ad), none] [.inl x3] 122 s0
  refine px_if_ne hG dX11_item_5 (tgt := 10) (by decide) ⟨by omega, by omega⟩ (fun c4 => ?_) (fun c4 => ?_)
  · refine px_aload_n hG dX11_item_10 rfl ?_
    refine px_iload_n hG dX11_item_11 rfl ?_
    refine px_iload_n hG dX11_item_12 rfl ?_
    refine px_iload_n hG dX11_item_13 rfl ?_
    refine px_iconst hG dX11_item_14 ?_
    refine jv4 hG dX11_item_15 ct_X11_against lk_X11_214 ⟨rfl, rfl⟩ (by decide) ⟨Nat.le_of_ble_eq_true rfl, Nat.le_of_ble_eq_true rfl, Nat.le_of_ble_eq_true rfl⟩ (Nat.le_of_ble_eq_true rfl) ⟨aa, ab, ac, 1, rfl, rfl, R0, by omega⟩ (fun r5 t6 pr5 => ?_)
    obtain ⟨x7, rfl, rfl, br5⟩ := pr5 _ _ _ _ rfl
    show G 18 [some (.inr (.inr (40, 0))), some (.inl aa), some (.inl ab), some (.inl ac), some (.inl ad), none] [.inl x7] 122 s0
    refine px_istore hG dX11_item_18 (Nat.le_of_ble_eq_true rfl) (L2 := [some (.inr (.inr (40, 0))), some (.inl aa), some (.inl ab), some (.inl ac), some (.inl ad), some (.inl x7)]) rfl ?_
    refine px_iload hG dX11_item_20 rfl ?_
    refine px_if_ge hG dX11_item_22 (tgt := 28) (by decide) ⟨by omega, by omega⟩ (fun c8 => ?_) (fun c8 => ?_)
    · refine px_aload_n hG dX11_item_28 rfl ?_
      refine gr_40_29 hG dX11_item_29 fl_X11_91 R0 ?_
      refine px_bipush hG dX11_item_32 (by decide) ?_
      refine px_iload_n hG dX11_item_34 rfl ?_
      refine px_imul hG dX11_item_35 ?_
      refine px_iload_n hG dX11_item_36 rfl ?_
      refine px_iadd hG dX11_item_37 ?_
      refine px_iload_n hG dX11_item_38 rfl ?_
      refine px_if_ne hG dX11_item_39 (tgt := 53) (by decide) ⟨by omega, by omega⟩ (fun c9 => ?_) (fun c9 => ?_)
      · refine px_iload_n hG dX11_item_53 rfl ?_
        refine px_iconst hG dX11_item_54 ?_
        refine px_ic_ne hG dX11_item_55 (tgt := 69) (by decide) ⟨by omega, by omega⟩ ⟨by omega, by omega⟩ (fun c10 => ?_) (fun c10 => ?_)
        · refine px_iload hG dX11_item_69 rfl ?_
          refine as_66 hG dX11_item_71 R0 (by omega) (fun s11 qs11 Rs11 => ?_)
          have Fs11 := pm_Fr_up ((pm_Fr_rf : pm_Fr [(66, none)] s0 s0)) qs11 (M := [(66, none)]) rfl
          have jj12 := pm_nec qs11 (c' := 40) (r' := 0) (i' := 0) (by decide)
          have jj13 := pm_nec qs11 (c' := 40) (r' := 0) (i' := 1) (by decide)
          have jj14 := pm_nec qs11 (c' := 40) (r' := 0) (i' := 2) (by decide)
          have jj15 := pm_nec qs11 (c' := 40) (r' := 0) (i' := 3) (by decide)
          refine px_iconst hG dX11_item_72 ?_
          have jj16 := Fs11 40 0 0 rfl
          have jj17 := Fs11 40 0 1 rfl
          have jj18 := Fs11 40 0 2 rfl
          have jj19 := Fs11 40 0 3 rfl
          exact px_iret (st := []) hG dX11_item_73 rfl rfl (fun aa_1 ab_1 ac_1 ad_1 ee => by cases ee; exact ⟨_, rfl, Rs11, Fs11, by unfold pm_IT; omega⟩)
        · refine px_iload hG dX11_item_58 rfl ?_
          refine px_bipush hG dX11_item_60 (by decide) ?_
          refine px_ishl hG dX11_item_62 ?_
          generalize hx20 : pm_ishl ad 16 = x20
          have bx20 := pm_ishl_in ad 16 x20 hx20
          refine px_bipush hG dX11_item_63 (by decide) ?_
          refine px_ishr hG dX11_item_65 ?_
          generalize hx21 : pm_ishr x20 16 = x21
          have bx21 := pm_ishr_in x20 16 x21 hx21
          refine px_goto hG dX11_item_66 (tgt := 71) (by decide) ?_
          refine as_66 hG dX11_item_71 R0 (by omega) (fun s22 qs22 Rs22 => ?_)
          have Fs22 := pm_Fr_up ((pm_Fr_rf : pm_Fr [(66, none)] s0 s0)) qs22 (M := [(66, none)]) rfl
          have jj23 := pm_nec qs22 (c' := 40) (r' := 0) (i' := 0) (by decide)
          have jj24 := pm_nec qs22 (c' := 40) (r' := 0) (i' := 1) (by decide)
          have jj25 := pm_nec qs22 (c' := 40) (r' := 0) (i' := 2) (by decide)
          have jj26 := pm_nec qs22 (c' := 40) (r' := 0) (i' := 3) (by decide)
          refine px_iconst hG dX11_item_72 ?_
          have jj27 := Fs22 40 0 0 rfl
          have jj28 := Fs22 40 0 1 rfl
          have jj29 := Fs22 40 0 2 rfl
          have jj30 := Fs22 40 0 3 rfl
          exact px_iret (st := []) hG dX11_item_73 rfl rfl (fun aa_1 ab_1 ac_1 ad_1 ee => by cases ee; exact ⟨_, rfl, Rs22, Fs22, by unfold pm_IT; omega⟩)
      · refine px_iload hG dX11_item_42 rfl ?_
        refine px_bipush hG dX11_item_44 (by decide) ?_
        refine px_ishl hG dX11_item_46 ?_
        generalize hx31 : pm_ishl ad 24 = x31
        have bx31 := pm_ishl_in ad 24 x31 hx31
        refine px_bipush hG dX11_item_47 (by decide) ?_
        refine px_ishr hG dX11_item_49 ?_
        generalize hx32 : pm_ishr x31 24 = x32
        have bx32 := pm_ishr_in x31 24 x32 hx32
        refine px_goto hG dX11_item_50 (tgt := 71) (by decide) ?_
        refine as_66 hG dX11_item_71 R0 (by omega) (fun s33 qs33 Rs33 => ?_)
        have Fs33 := pm_Fr_up ((pm_Fr_rf : pm_Fr [(66, none)] s0 s0)) qs33 (M := [(66, none)]) rfl
        have jj34 := pm_nec qs33 (c' := 40) (r' := 0) (i' := 0) (by decide)
        have jj35 := pm_nec qs33 (c' := 40) (r' := 0) (i' := 1) (by decide)
        have jj36 := pm_nec qs33 (c' := 40) (r' := 0) (i' := 2) (by decide)
        have jj37 := pm_nec qs33 (c' := 40) (r' := 0) (i' := 3) (by decide)
        refine px_iconst hG dX11_item_72 ?_
        have jj38 := Fs33 40 0 0 rfl
        have jj39 := Fs33 40 0 1 rfl
        have jj40 := Fs33 40 0 2 rfl
        have jj41 := Fs33 40 0 3 rfl
        exact px_iret (st := []) hG dX11_item_73 rfl rfl (fun aa_1 ab_1 ac_1 ad_1 ee => by cases ee; exact ⟨_, rfl, Rs33, Fs33, by unfold pm_IT; omega⟩)
    · refine px_iload hG dX11_item_25 rfl ?_
      exact px_iret (st := []) hG dX11_item_27 rfl rfl (fun aa_1 ab_1 ac_1 ad_1 ee => by cases ee; exact ⟨_, rfl, R0, pm_Fr_rf, by unfold pm_IT; omega⟩)
  · refine px_iconst hG dX11_item_8 ?_
    exact px_iret (st := []) hG dX11_item_9 rfl rfl (fun aa_1 ab_1 ac_1 ad_1 ee => by cases ee; exact ⟨_, rfl, R0, pm_Fr_rf, by unfold pm_IT; omega⟩))
