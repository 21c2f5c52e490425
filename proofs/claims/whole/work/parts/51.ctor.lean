/-! constructors of the small classes -/
set_option maxRecDepth 20000 in
theorem bX8_init_0 {X : pz_C} {rm : Room} {E : Option pz_V → pz_H → Prop} (hX : pz_X X cX8_init 4 RX8) (hR : pz_Rt X cX8_init 4 none rm E) (hN : pz_N X) (hrm : pz_rm X = rm) : ∀ lv st g c s, (zo_al 1 0 (zo_oin rm (zo_al 1 0 (zo_il 1 1 (zo_puti 10 0 (zo_al 1 0 (zo_il 1 2 (zo_puti 10 1 (zo_al 1 0 (zo_al 1 3 (zo_putr 10 2 (zo_rv rm E)))))))))))) 0 lv st g c s → pz_Z X 4 0 lv st g c s := by
  subst hrm
  exact (zs_aload_n hX dX8_init_0 rfl (zs_oin hX mw_506ba447 mw_98b694a7 mw_abc23770 dX8_init_1 (zs_aload_n hX dX8_init_4 rfl (zs_iload_n hX dX8_init_5 rfl (zs_putiF hX (C := RX8) (T := TX8) (N := 3) rfl in_X8 (by decide) mw_2ef2a81f tyX8 tyX8_ok nmX8 (by decide +kernel) rfl hN rfl dX8_init_6 (zs_aload_n hX dX8_init_9 rfl (zs_iload_n hX dX8_init_10 rfl (zs_puti hX (C := RX8) (T := TX8) (N := 3) rfl in_X8 (by decide) mw_2b0a871a tyX8 tyX8_ok nmX8 (by decide +kernel) rfl dX8_init_11 (zs_aload_n hX dX8_init_14 rfl (zs_aload_n hX dX8_init_15 rfl (zs_putr hX (C := RX8) (T := TX8) (N := 3) rfl in_X8 (by decide) mw_1541c8ce tyX8 tyX8_ok nmX8 (ty := (.object "LineTimes$ZoneRow")) (by decide +kernel) rfl rfl dX8_init_16 (zs_rv hR dX8_init_19))))))))))))
set_option maxRecDepth 20000 in
theorem bX0_init_0 {X : pz_C} {rm : Room} {E : Option pz_V → pz_H → Prop} (hX : pz_X X cX0_init 4 RX0) (hR : pz_Rt X cX0_init 4 none rm E) (hN : pz_N X) (hrm : pz_rm X = rm) : ∀ lv st g c s, (zo_al 1 0 (zo_oin rm (zo_al 1 0 (zo_il 1 1 (zo_puti 2 0 (zo_al 1 0 (zo_il 1 2 (zo_putz 2 1 (zo_al 1 0 (zo_al 1 3 (zo_putr 2 2 (zo_rv rm E)))))))))))) 0 lv st g c s → pz_Z X 4 0 lv st g c s := by
  subst hrm
  exact (zs_aload_n hX dX0_init_0 rfl (zs_oin hX mw_7e83891c mw_98b694a7 mw_abc23770 dX0_init_1 (zs_aload_n hX dX0_init_4 rfl (zs_iload_n hX dX0_init_5 rfl (zs_putiF hX (C := RX0) (T := TX0) (N := 3) rfl in_X0 (by decide) mw_4512307e tyX0 tyX0_ok nmX0 (by decide +kernel) rfl hN rfl dX0_init_6 (zs_aload_n hX dX0_init_9 rfl (zs_iload_n hX dX0_init_10 rfl (zs_putz hX (C := RX0) (T := TX0) (N := 3) rfl in_X0 (by decide) mw_42951e05 tyX0 tyX0_ok nmX0 (by decide +kernel) rfl dX0_init_11 (zs_aload_n hX dX0_init_14 rfl (zs_aload_n hX dX0_init_15 rfl (zs_putrF hX (C := RX0) (T := TX0) (N := 3) rfl in_X0 (by decide) mw_7a2e3854 tyX0 tyX0_ok nmX0 (ty := (.object "LineTimes$DayWord")) (by decide +kernel) rfl rfl hN rfl dX0_init_16 (zs_rv hR dX0_init_19))))))))))))
set_option maxRecDepth 20000 in
theorem bX1_init_0 {X : pz_C} {rm : Room} {E : Option pz_V → pz_H → Prop} (hX : pz_X X cX1_init 5 RX1) (hR : pz_Rt X cX1_init 5 none rm E) (hN : pz_N X) (hrm : pz_rm X = rm) : ∀ lv st g c s, (zo_al 1 0 (zo_oin rm (zo_al 1 0 (zo_il 1 1 (zo_puti 3 0 (zo_al 1 0 (zo_il 1 2 (zo_puti 3 1 (zo_al 1 0 (zo_il 1 3 (zo_puti 3 2 (zo_al 1 0 (zo_al 2 4 (zo_putr 3 3 (zo_rv rm E))))))))))))))) 0 lv st g c s → pz_Z X 5 0 lv st g c s := by
  subst hrm
  exact (zs_aload_n hX dX1_init_0 rfl (zs_oin hX mw_241613e8 mw_98b694a7 mw_abc23770 dX1_init_1 (zs_aload_n hX dX1_init_4 rfl (zs_iload_n hX dX1_init_5 rfl (zs_putiF hX (C := RX1) (T := TX1) (N := 4) rfl in_X1 (by decide) mw_971e17e5 tyX1 tyX1_ok nmX1 (by decide +kernel) rfl hN rfl dX1_init_6 (zs_aload_n hX dX1_init_9 rfl (zs_iload_n hX dX1_init_10 rfl (zs_putiF hX (C := RX1) (T := TX1) (N := 4) rfl in_X1 (by decide) mw_753c90cb tyX1 tyX1_ok nmX1 (by decide +kernel) rfl hN rfl dX1_init_11 (zs_aload_n hX dX1_init_14 rfl (zs_iload_n hX dX1_init_15 rfl (zs_putiF hX (C := RX1) (T := TX1) (N := 4) rfl in_X1 (by decide) mw_227a7ffb tyX1 tyX1_ok nmX1 (by decide +kernel) rfl hN rfl dX1_init_16 (zs_aload_n hX dX1_init_19 rfl (zs_aload hX dX1_init_20 (zs_putrF hX (C := RX1) (T := TX1) (N := 4) rfl in_X1 (by decide) mw_232cb81f tyX1 tyX1_ok nmX1 (ty := (.object "LineTimes$LateWord")) (by decide +kernel) rfl rfl hN rfl dX1_init_22 (zs_rv hR dX1_init_25)))))))))))))))
set_option maxRecDepth 20000 in
theorem bX5_init_0 {X : pz_C} {rm : Room} {E : Option pz_V → pz_H → Prop} (hX : pz_X X cX5_init 1 RX5) (hR : pz_Rt X cX5_init 1 none rm E) (hrm : pz_rm X = rm) : ∀ lv st g c s, (zo_al 1 0 (zo_oin rm (zo_rv rm E))) 0 lv st g c s → pz_Z X 1 0 lv st g c s := by
  subst hrm
  exact (zs_aload_n hX dX5_init_0 rfl (zs_oin hX mw_d78e19c5 mw_98b694a7 mw_abc23770 dX5_init_1 (zs_rv hR dX5_init_4)))
set_option maxRecDepth 20000 in
theorem bX2_init_0 {X : pz_C} {rm : Room} {E : Option pz_V → pz_H → Prop} (hX : pz_X X cX2_init 1 RX2) (hR : pz_Rt X cX2_init 1 none rm E) (hN : pz_N X) (hrm : pz_rm X = rm) : ∀ lv st g c s, (zo_al 1 0 (zo_oin rm (zo_al 1 0 (zo_ic 2 (101) (zo_newa rm 0 (.inl (fun _ => 0)) (zo_putr 4 0 (zo_rv rm E))))))) 0 lv st g c s → pz_Z X 1 0 lv st g c s := by
  subst hrm
  exact (zs_aload_n hX dX2_init_0 rfl (zs_oin hX mw_3ed77d1a mw_98b694a7 mw_abc23770 dX2_init_1 (zs_aload_n hX dX2_init_4 rfl (zs_bipush hX dX2_init_5 (by decide) (zs_newI hX mw_e0d6632e dX2_init_7 (zs_putrF hX (C := RX2) (T := TX2) (N := 3) rfl in_X2 (by decide) mw_73b11fd4 tyX2 tyX2_ok nmX2 (ty := (.array .int)) (by decide +kernel) rfl rfl hN rfl dX2_init_9 (zs_rv hR dX2_init_12)))))))
def rm_X8_init : Room := { frames := 1, cells := 0, slots := 0, locals := 12 }
abbrev gt_X8_init : Type := Nat × List Nat × Int32 × Int32 × Option Nat
def pr_X8_init : gt_X8_init → List pz_V → pz_H → Prop := fun (h, lb, f, m, r) av g => av = [.inr (.inr (some (h))), .inl (f), .inl (m), .inr (.inr r)] ∧ g h = some (lb, .inr (10, [.inl 0, .inl 0, .inr (.inr none)]))
def po_X8_init : gt_X8_init → List pz_V → pz_H → Option pz_V → pz_H → Prop := fun (h, lb, f, m, r) _ g v g' => v = none ∧ g' = va_up g h (some (lb, .inr (10, [.inl f, .inl m, .inr (.inr r)])))
theorem ct_X8_init {G : pz_Gx} (hOk : pz_OK G) (gh : gt_X8_init) : pz_M G yX8_init cX8_init 4 none rm_X8_init (pr_X8_init gh) (po_X8_init gh) := by
  obtain ⟨h, lb, f, m, r⟩ := gh
  refine pz_ofZ (by decide) hOk.1 (Or.inl rfl) ?_ ?_
  · rintro av g ⟨rfl, -⟩
    exact Nat.le_of_ble_eq_true rfl
  · rintro X hX hGX hrm hN av g ⟨rfl, hg⟩ hR
    refine bX8_init_0 hX hR (hN rfl) hrm _ _ _ _ _ ⟨Nat.le_of_ble_eq_true rfl, Nat.le_of_ble_eq_true rfl, _, _, hg, Nat.le_of_ble_eq_true rfl, _, _, up_at, Nat.le_of_ble_eq_true rfl, _, _, up_at, Nat.le_of_ble_eq_true rfl, Nat.le_refl _, Nat.le_refl _, rfl, ?_⟩
    rw [up_up, up_up]; rfl
def rm_X0_init : Room := { frames := 1, cells := 0, slots := 0, locals := 12 }
abbrev gt_X0_init : Type := Nat × List Nat × Int32 × Int32 × Option Nat
def pr_X0_init : gt_X0_init → List pz_V → pz_H → Prop := fun (h, lb, d, x, r) av g => av = [.inr (.inr (some (h))), .inl (d), .inl (x), .inr (.inr r)] ∧ (x = 0 ∨ x = 1) ∧ g h = some (lb, .inr (2, [.inl 0, .inl 0, .inr (.inr none)]))
def po_X0_init : gt_X0_init → List pz_V → pz_H → Option pz_V → pz_H → Prop := fun (h, lb, d, x, r) _ g v g' => v = none ∧ g' = va_up g h (some (lb, .inr (2, [.inl d, .inl x, .inr (.inr r)])))
theorem ct_X0_init {G : pz_Gx} (hOk : pz_OK G) (gh : gt_X0_init) : pz_M G yX0_init cX0_init 4 none rm_X0_init (pr_X0_init gh) (po_X0_init gh) := by
  obtain ⟨h, lb, d, x, r⟩ := gh
  refine pz_ofZ (by decide) hOk.1 (Or.inl rfl) ?_ ?_
  · rintro av g ⟨rfl, -⟩
    exact Nat.le_of_ble_eq_true rfl
  · rintro X hX hGX hrm hN av g ⟨rfl, hx, hg⟩ hR
    refine bX0_init_0 hX hR (hN rfl) hrm _ _ _ _ _ ⟨Nat.le_of_ble_eq_true rfl, Nat.le_of_ble_eq_true rfl, _, _, hg, Nat.le_of_ble_eq_true rfl, hx, _, _, up_at, Nat.le_of_ble_eq_true rfl, _, _, up_at, Nat.le_of_ble_eq_true rfl, Nat.le_refl _, Nat.le_refl _, rfl, ?_⟩
    rw [up_up, up_up]; rfl
def rm_X1_init : Room := { frames := 1, cells := 0, slots := 0, locals := 12 }
abbrev gt_X1_init : Type := Nat × List Nat × (Int32 × Int32 × Int32) × Option Nat
def pr_X1_init : gt_X1_init → List pz_V → pz_H → Prop := fun (h, lb, (st, b, d), r) av g => av = [.inr (.inr (some (h))), .inl (st), .inl (b), .inl (d), .inr (.inr r)] ∧ g h = some (lb, .inr (3, [.inl 0, .inl 0, .inl 0, .inr (.inr none)]))
def po_X1_init : gt_X1_init → List pz_V → pz_H → Option pz_V → pz_H → Prop := fun (h, lb, (st, b, d), r) _ g v g' => v = none ∧ g' = va_up g h (some (lb, .inr (3, [.inl st, .inl b, .inl d, .inr (.inr r)])))
theorem ct_X1_init {G : pz_Gx} (hOk : pz_OK G) (gh : gt_X1_init) : pz_M G yX1_init cX1_init 5 none rm_X1_init (pr_X1_init gh) (po_X1_init gh) := by
  obtain ⟨h, lb, ⟨st, b, d⟩, r⟩ := gh
  refine pz_ofZ (by decide) hOk.1 (Or.inl rfl) ?_ ?_
  · rintro av g ⟨rfl, -⟩
    exact Nat.le_of_ble_eq_true rfl
  · rintro X hX hGX hrm hN av g ⟨rfl, hg⟩ hR
    refine bX1_init_0 hX hR (hN rfl) hrm _ _ _ _ _ ⟨Nat.le_of_ble_eq_true rfl, Nat.le_of_ble_eq_true rfl, _, _, hg, Nat.le_of_ble_eq_true rfl, _, _, up_at, Nat.le_of_ble_eq_true rfl, _, _, up_at, Nat.le_of_ble_eq_true rfl, _, _, up_at, Nat.le_of_ble_eq_true rfl, Nat.le_refl _, Nat.le_refl _, rfl, ?_⟩
    rw [up_up, up_up, up_up]; rfl
def rm_X5_init : Room := { frames := 1, cells := 0, slots := 0, locals := 12 }
abbrev gt_X5_init : Type := Nat
def pr_X5_init : gt_X5_init → List pz_V → pz_H → Prop := fun h av g => av = [.inr (.inr (some (h)))]
def po_X5_init : gt_X5_init → List pz_V → pz_H → Option pz_V → pz_H → Prop := fun _ _ g v g' => v = none ∧ g' = g
theorem ct_X5_init {G : pz_Gx} (hOk : pz_OK G) (gh : gt_X5_init) : pz_M G yX5_init cX5_init 1 none rm_X5_init (pr_X5_init gh) (po_X5_init gh) := by
  refine pz_ofZ (by decide) hOk.1 (Or.inl rfl) ?_ ?_
  · rintro av g rfl
    exact Nat.le_of_ble_eq_true rfl
  · rintro X hX hGX hrm hN av g rfl hR
    exact bX5_init_0 hX hR hrm _ _ _ _ _ ⟨Nat.le_of_ble_eq_true rfl, Nat.le_of_ble_eq_true rfl, Nat.le_refl _, Nat.le_refl _, rfl, rfl⟩
def rm_X2_init : Room := { frames := 1, cells := 1, slots := 101, locals := 13 }
abbrev gt_X2_init : Type := Nat
def pr_X2_init : gt_X2_init → List pz_V → pz_H → Prop := fun h av g => av = [.inr (.inr (some (h)))] ∧ g h = some ([3], .inr (4, [.inr (.inr none), .inl 0, .inl 0]))
def po_X2_init : gt_X2_init → List pz_V → pz_H → Option pz_V → pz_H → Prop := fun h _ g v g' => v = none ∧ hg (fun b => b = [3]) g g' ∧ ∃ ti, lvS g' h ti 0 0 (fun _ => 0)
theorem ct_X2_init {G : pz_Gx} (hOk : pz_OK G) (gh : gt_X2_init) : pz_M G yX2_init cX2_init 1 none rm_X2_init (pr_X2_init gh) (po_X2_init gh) := by
  refine pz_ofZ (by decide) hOk.1 (Or.inl rfl) ?_ ?_
  · rintro av g ⟨rfl, -⟩
    exact Nat.le_of_ble_eq_true rfl
  · rintro X hX hGX hrm hN av g ⟨rfl, hg0⟩ hR
    refine bX2_init_0 hX hR (hN rfl) hrm _ _ _ _ _ ⟨Nat.le_of_ble_eq_true rfl, Nat.le_of_ble_eq_true rfl, by decide, Nat.le_of_ble_eq_true rfl, Nat.le_of_ble_eq_true rfl, Nat.le_of_ble_eq_true rfl, [15], fun q hq => ⟨_, _, up_nq hg0 hq, Nat.le_of_ble_eq_true rfl, Nat.le_of_ble_eq_true rfl, Nat.le_of_ble_eq_true rfl, rfl, ?_, q, up_at, ?_⟩⟩
    · exact hg_up (hg_new hg_rf hq) (up_nq hg0 hq) rfl
    · exact up_ne (b := [3]) (b' := [15]) up_at (up_nq hg0 hq) (by decide)
