/-! constructors that make arrays of arrays: Line, Way -/
theorem li_1 {g : pz_H} {lo lab : List Nat} {h q ci : Nat} {fs : List pz_V} (hh : g h = some (lo, .inr (ci, fs))) (hq : g q = none) (i : Nat) (e : pz_E) (hl : lab ≠ lo) : va_up (va_up g q (some (lab, e))) h (some (lo, .inr (ci, fs.set i (.inr (.inr (some q)))))) h = some (lo, .inr (ci, fs.set i (.inr (.inr (some q))))) ∧ va_up (va_up g q (some (lab, e))) h (some (lo, .inr (ci, fs.set i (.inr (.inr (some q)))))) q = some (lab, e) ∧ hg (fun b => b = lo) g (va_up (va_up g q (some (lab, e))) h (some (lo, .inr (ci, fs.set i (.inr (.inr (some q))))))) :=
  ⟨up_at, up_ne up_at (up_nq hh hq) hl, hg_up (hg_new hg_rf hq) (up_nq hh hq) rfl⟩
theorem mnU_hg {S : List Nat → Prop} {g : pz_H} {rr : Nat → Nat} {bi : Nat → List Nat} {e : pz_E} : ∀ n, (∀ i, i < n → g (rr i) = none) → hg S g (mnU g rr bi e n) := fun n h x b c hx _ => by
  rw [mnU_ne n (fun i hi e => by have := h i hi; rw [e, hx] at this; cases this)]
  exact hx
theorem li_2 {g : pz_H} {lo lab : List Nat} {h q ci n : Nat} {rr : Nat → Nat} {bi : Nat → List Nat} {fs : List pz_V} (hh : g h = some (lo, .inr (ci, fs))) (hq : g q = none) (hr : ∀ i, i < n → g (rr i) = none ∧ rr i ≠ q) (hij : ∀ i j, i < n → j < n → rr i = rr j → i = j) (i : Nat) (e eo : pz_E) (hl : lab ≠ lo) (hbi : ∀ i, bi i ≠ lo) : va_up (va_up (mnU g rr bi e n) q (some (lab, eo))) h (some (lo, .inr (ci, fs.set i (.inr (.inr (some q)))))) h = some (lo, .inr (ci, fs.set i (.inr (.inr (some q))))) ∧ va_up (va_up (mnU g rr bi e n) q (some (lab, eo))) h (some (lo, .inr (ci, fs.set i (.inr (.inr (some q)))))) q = some (lab, eo) ∧ (∀ k, k < n → va_up (va_up (mnU g rr bi e n) q (some (lab, eo))) h (some (lo, .inr (ci, fs.set i (.inr (.inr (some q)))))) (rr k) = some (bi k, e)) ∧ hg (fun b => b = lo) g (va_up (va_up (mnU g rr bi e n) q (some (lab, eo))) h (some (lo, .inr (ci, fs.set i (.inr (.inr (some q))))))) := by
  have hm := mnU_hg (S := fun b => b = lo) (bi := bi) (e := e) n (fun i hi => (hr i hi).1)
  have hm0 := mnU_hg (S := fun _ => False) (bi := bi) (e := e) n (fun i hi => (hr i hi).1)
  have hq' : mnU g rr bi e n q = none := by rw [mnU_ne n (fun i hi => (hr i hi).2)]; exact hq
  have hh' := hm0 _ _ _ hh (fun h => h)
  refine ⟨up_at, up_ne up_at (up_nq hh' hq') hl, fun k hk => ?_, hg_up (hg_new hm hq') (up_nq hh' hq') rfl⟩
  exact up_ne (up_nq (mnU_at n hij k hk) hq') (up_nq hh' hq') (hbi k)
set_option maxRecDepth 20000 in
theorem bX7_init_0 {X : pz_C} {G : pz_Gx} {sa md mi : Nat} {rm : Room} {E : Option pz_V → pz_H → Prop} (hX : pz_X X cX7_init 1 RX7) (hR : pz_Rt X cX7_init 1 none rm E) (hN : pz_N X) (hrm : pz_rm X = rm) (hGX : pz_GX X G) (hOk : pz_O2 G sa md mi) : ∀ lv st g c s, (zo_al 1 0 (zo_oin rm (zo_al 1 0 (zo_ic 2 (6) (zo_ic 2 (6) (zo_mna rm (zo_putr 9 0 (zo_rv rm E)))))))) 0 lv st g c s → pz_Z X 1 0 lv st g c s := by
  subst hrm
  exact (zs_aload_n hX dX7_init_0 rfl (zs_oin hX mw_dd054106 mw_98b694a7 mw_abc23770 dX7_init_1 (zs_aload_n hX dX7_init_4 rfl (zs_bipush hX dX7_init_5 (by decide) (zs_bipush hX dX7_init_7 (by decide) (zs_mna hX hGX hOk mw_851b6fec mw_e0d6632e dX7_init_9 (zs_putrF hX (C := RX7) (T := TX7) (N := 2) rfl in_X7 (by decide) mw_fa5c15b1 tyX7 tyX7_ok nmX7 (ty := (.array (.array .int))) (by decide +kernel) rfl rfl hN rfl dX7_init_13 (zs_rv hR dX7_init_16))))))))
set_option maxRecDepth 20000 in
theorem bX3_init_0 {X : pz_C} {G : pz_Gx} {sa md mi : Nat} {rm : Room} {E : Option pz_V → pz_H → Prop} (hX : pz_X X cX3_init 2 RX3) (hR : pz_Rt X cX3_init 2 none rm E) (hN : pz_N X) (hrm : pz_rm X = rm) (hGX : pz_GX X G) (hOk : pz_O2 G sa md mi) : ∀ lv st g c s, (zo_al 1 0 (zo_oin rm (zo_al 1 0 (zo_ic 2 (12) (zo_newa rm 0 (.inl (fun _ => 0)) (zo_putr 5 1 (zo_al 1 0 (zo_ic 2 (12) (zo_newa rm 0 (.inl (fun _ => 0)) (zo_putr 5 2 (zo_al 1 0 (zo_ic 2 (12) (zo_newa rm 0 (.inl (fun _ => 0)) (zo_putr 5 3 (zo_al 1 0 (zo_ic 2 (13) (zo_newa rm 2 (.inl (fun _ => 0)) (zo_putr 5 7 (zo_al 1 0 (zo_ic 2 (13) (zo_ic 2 (12) (zo_mna rm (zo_putr 5 8 (zo_al 1 0 (zo_ic 2 (13) (zo_ic 2 (12) (zo_mna rm (zo_putr 5 9 (zo_al 1 0 (zo_ic 2 (12) (zo_newa rm 0 (.inl (fun _ => 0)) (zo_putr 5 10 (zo_al 1 0 (zo_il 1 1 (zo_puti 5 0 (zo_rv rm E)))))))))))))))))))))))))))))))))))) 0 lv st g c s → pz_Z X 2 0 lv st g c s := by
  subst hrm
  exact (zs_aload_n hX dX3_init_0 rfl (zs_oin hX mw_e006af53 mw_98b694a7 mw_abc23770 dX3_init_1 (zs_aload_n hX dX3_init_4 rfl (zs_bipush hX dX3_init_5 (by decide) (zs_newI hX mw_e0d6632e dX3_init_7 (zs_putrF hX (C := RX3) (T := TX3) (N := 11) rfl in_X3 (by decide) mw_7ffb4013 tyX3 tyX3_ok nmX3 (ty := (.array .int)) (by decide +kernel) rfl rfl hN rfl dX3_init_9 (zs_aload_n hX dX3_init_12 rfl (zs_bipush hX dX3_init_13 (by decide) (zs_newI hX mw_e0d6632e dX3_init_15 (zs_putrF hX (C := RX3) (T := TX3) (N := 11) rfl in_X3 (by decide) mw_22306b94 tyX3 tyX3_ok nmX3 (ty := (.array .int)) (by decide +kernel) rfl rfl hN rfl dX3_init_17 (zs_aload_n hX dX3_init_20 rfl (zs_bipush hX dX3_init_21 (by decide) (zs_newI hX mw_e0d6632e dX3_init_23 (zs_putrF hX (C := RX3) (T := TX3) (N := 11) rfl in_X3 (by decide) mw_23200ee7 tyX3 tyX3_ok nmX3 (ty := (.array .int)) (by decide +kernel) rfl rfl hN rfl dX3_init_25 (zs_aload_n hX dX3_init_28 rfl (zs_bipush hX dX3_init_29 (by decide) (zs_newZ hX mw_7d1231b9 dX3_init_31 (zs_putrF hX (C := RX3) (T := TX3) (N := 11) rfl in_X3 (by decide) mw_5b456fc6 tyX3 tyX3_ok nmX3 (ty := (.array .boolean)) (by decide +kernel) rfl rfl hN rfl dX3_init_33 (zs_aload_n hX dX3_init_36 rfl (zs_bipush hX dX3_init_37 (by decide) (zs_bipush hX dX3_init_39 (by decide) (zs_mna hX hGX hOk mw_5c2d57a9 mw_e0d6632e dX3_init_41 (zs_putrF hX (C := RX3) (T := TX3) (N := 11) rfl in_X3 (by decide) mw_a565fce3 tyX3 tyX3_ok nmX3 (ty := (.array (.array .int))) (by decide +kernel) rfl rfl hN rfl dX3_init_45 (zs_aload_n hX dX3_init_48 rfl (zs_bipush hX dX3_init_49 (by decide) (zs_bipush hX dX3_init_51 (by decide) (zs_mna hX hGX hOk mw_5c2d57a9 mw_e0d6632e dX3_init_53 (zs_putrF hX (C := RX3) (T := TX3) (N := 11) rfl in_X3 (by decide) mw_d9a7b0a9 tyX3 tyX3_ok nmX3 (ty := (.array (.array .int))) (by decide +kernel) rfl rfl hN rfl dX3_init_57 (zs_aload_n hX dX3_init_60 rfl (zs_bipush hX dX3_init_61 (by decide) (zs_newI hX mw_e0d6632e dX3_init_63 (zs_putrF hX (C := RX3) (T := TX3) (N := 11) rfl in_X3 (by decide) mw_b5197fa4 tyX3 tyX3_ok nmX3 (ty := (.array .int)) (by decide +kernel) rfl rfl hN rfl dX3_init_65 (zs_aload_n hX dX3_init_68 rfl (zs_iload_n hX dX3_init_69 rfl (zs_putiF hX (C := RX3) (T := TX3) (N := 11) rfl in_X3 (by decide) mw_1e5c016b tyX3 tyX3_ok nmX3 (by decide +kernel) rfl hN rfl dX3_init_70 (zs_rv hR dX3_init_73))))))))))))))))))))))))))))))))))))
def rm_X7_init : Room := { frames := 1, cells := 7, slots := 42, locals := 13 }
abbrev gt_X7_init : Type := Nat
def pr_X7_init : gt_X7_init → List pz_V → pz_H → Prop := fun h av g => av = [.inr (.inr (some (h)))] ∧ g h = some ([2], .inr (9, [.inr (.inr none), .inl 0]))
def po_X7_init : gt_X7_init → List pz_V → pz_H → Option pz_V → pz_H → Prop := fun h _ g v g' => v = none ∧ hg (fun b => b = [2]) g g' ∧ ∃ lg Pa, wyS g' h lg 0 Pa (fun _ _ => 0)
set_option maxRecDepth 20000 in
set_option maxHeartbeats 4000000 in
theorem ct_X7_init {G : pz_Gx} {sa md mi : Nat} (hOk : pz_O2 G sa md mi) (gh : gt_X7_init) : pz_M G yX7_init cX7_init 1 none rm_X7_init (pr_X7_init gh) (po_X7_init gh) := by
  refine pz_ofZ (by decide) hOk.1.1 (Or.inl rfl) ?_ ?_
  · rintro av g ⟨rfl, -⟩
    exact Nat.le_of_ble_eq_true rfl
  · rintro X hX hGX hrm hN av g ⟨rfl, hg0⟩ hR
    refine bX7_init_0 hX hR (hN rfl) hrm hGX hOk _ _ _ _ _ ⟨Nat.le_of_ble_eq_true rfl, Nat.le_of_ble_eq_true rfl, by decide, by decide, by decide, by decide, Nat.le_of_ble_eq_true rfl, Nat.le_of_ble_eq_true rfl, [13], (fun i => [14, i]), fun q rr hq hrr hij => ?_⟩
    have S := li_2 (lab := [13]) (bi := fun i => [14, i]) (n := 6) hg0 hq hrr hij 0 (.inl (0, 6, .inl (fun _ => 0))) (.inl (6, 6, .inr (.inr (.inr (.inr (fun i => if i < 6 then some (rr i) else none)))))) (by decide) (fun i => by simp)
    have hh' : mnU g rr (fun i => [14, i]) (.inl (0, 6, .inl (fun _ => 0))) 6 q = none := by rw [mnU_ne 6 (fun i hi => (hrr i hi).2)]; exact hq
    have hg1 := mnU_hg (S := fun _ => False) (bi := fun i => [14, i]) (e := .inl (0, 6, .inl (fun _ => 0))) 6 (fun i hi => (hrr i hi).1) _ _ _ hg0 (fun h => h)
    refine ⟨_, _, up_nq hg1 hh', Nat.le_of_ble_eq_true rfl, Nat.le_of_ble_eq_true rfl, Nat.le_of_ble_eq_true rfl, rfl, S.2.2.2, q, rr, S.1, ⟨_, S.2.1, fun i hi => if_pos hi⟩, fun i hi => S.2.2.1 i hi⟩
def rm_X3_init : Room := { frames := 1, cells := 33, slots := 399, locals := 14 }
abbrev gt_X3_init : Type := Nat × Nat × Int32
abbrev ln_df : List pz_V := [.inl 0, .inr (.inr none), .inr (.inr none), .inr (.inr none), .inl 0, .inr (.inr none), .inr (.inr none), .inr (.inr none), .inr (.inr none), .inr (.inr none), .inr (.inr none)]
def pr_X3_init : gt_X3_init → List pz_V → pz_H → Prop := fun (h, u, wd) av g => av = [.inr (.inr (some (h))), .inl (wd)] ∧ g h = some ([30, u], .inr (5, ln_df))
def po_X3_init : gt_X3_init → List pz_V → pz_H → Option pz_V → pz_H → Prop := fun (h, u, wd) _ g v g' => v = none ∧ hg (fun b => b = [30, u]) g g' ∧ ∃ La Ra Rd, lrOK g' (lr_z u h La Ra Rd wd (fun _ => 0) (fun _ => 0) (fun _ => 0)) ∧ lrT g' (lr_z u h La Ra Rd wd (fun _ => 0) (fun _ => 0) (fun _ => 0)) (fun _ => 0) (fun _ _ => 0) (fun _ _ => 0)
set_option maxRecDepth 20000 in
set_option maxHeartbeats 8000000 in
theorem ct_X3_init {G : pz_Gx} {sa md mi : Nat} (hOk : pz_O2 G sa md mi) (gh : gt_X3_init) : pz_M G yX3_init cX3_init 2 none rm_X3_init (pr_X3_init gh) (po_X3_init gh) := by
  obtain ⟨h, u, wd⟩ := gh
  refine pz_ofZ (by decide) hOk.1.1 (Or.inl rfl) ?_ ?_
  · rintro av g ⟨rfl, -⟩
    exact Nat.le_of_ble_eq_true rfl
  · rintro X hX hGX hrm hN av g ⟨rfl, hg0⟩ hR
    have H0 := hg_rf (S := fun b => b = [30, u]) (g := g)
    have A0 : g h = some ([30, u], .inr (5, [.inl 0, .inr (.inr none), .inr (.inr none), .inr (.inr none), .inl 0, .inr (.inr none), .inr (.inr none), .inr (.inr none), .inr (.inr none), .inr (.inr none), .inr (.inr none)])) := hg0
    clear hg0
    refine bX3_init_0 hX hR (hN rfl) hrm hGX hOk _ _ _ _ _ ⟨Nat.le_of_ble_eq_true rfl, Nat.le_of_ble_eq_true rfl, by decide, Nat.le_of_ble_eq_true rfl, Nat.le_of_ble_eq_true rfl, Nat.le_of_ble_eq_true rfl, [31, u], fun q1 e1 => ⟨_, _, up_nq A0 e1, Nat.le_of_ble_eq_true rfl, ?_⟩⟩
    have S := li_1 (lab := [31, u]) A0 e1 1 (ar_i 12 (fun _ => 0)) (by simp)
    rw [show (12 : Int32).toNatClampNeg = 12 from rfl]
    generalize va_up (va_up _ q1 _) h _ = g1 at S ⊢
    have A1 : g1 h = some ([30, u], .inr (5, [.inl 0, .inr (.inr (some q1)), .inr (.inr none), .inr (.inr none), .inl 0, .inr (.inr none), .inr (.inr none), .inr (.inr none), .inr (.inr none), .inr (.inr none), .inr (.inr none)])) := S.1
    have B1 : g1 q1 = some ([31, u], ar_i 12 (fun _ => 0)) := S.2.1
    have H1 := hg_tr H0 S.2.2
    clear S A0 H0 e1
    refine ⟨by decide, Nat.le_of_ble_eq_true rfl, Nat.le_of_ble_eq_true rfl, Nat.le_of_ble_eq_true rfl, [32, u], fun q2 e2 => ⟨_, _, up_nq A1 e2, Nat.le_of_ble_eq_true rfl, ?_⟩⟩
    have S := li_1 (lab := [32, u]) A1 e2 2 (ar_i 12 (fun _ => 0)) (by simp)
    rw [show (12 : Int32).toNatClampNeg = 12 from rfl]
    generalize va_up (va_up _ q2 _) h _ = g2 at S ⊢
    have A2 : g2 h = some ([30, u], .inr (5, [.inl 0, .inr (.inr (some q1)), .inr (.inr (some q2)), .inr (.inr none), .inl 0, .inr (.inr none), .inr (.inr none), .inr (.inr none), .inr (.inr none), .inr (.inr none), .inr (.inr none)])) := S.1
    have B1 : g2 q1 = some ([31, u], ar_i 12 (fun _ => 0)) := S.2.2 _ _ _ B1 (by simp)
    have B2 : g2 q2 = some ([32, u], ar_i 12 (fun _ => 0)) := S.2.1
    have H2 := hg_tr H1 S.2.2
    clear S A1 H1 e2
    refine ⟨by decide, Nat.le_of_ble_eq_true rfl, Nat.le_of_ble_eq_true rfl, Nat.le_of_ble_eq_true rfl, [33, u], fun q3 e3 => ⟨_, _, up_nq A2 e3, Nat.le_of_ble_eq_true rfl, ?_⟩⟩
    have S := li_1 (lab := [33, u]) A2 e3 3 (ar_i 12 (fun _ => 0)) (by simp)
    rw [show (12 : Int32).toNatClampNeg = 12 from rfl]
    generalize va_up (va_up _ q3 _) h _ = g3 at S ⊢
    have A3 : g3 h = some ([30, u], .inr (5, [.inl 0, .inr (.inr (some q1)), .inr (.inr (some q2)), .inr (.inr (some q3)), .inl 0, .inr (.inr none), .inr (.inr none), .inr (.inr none), .inr (.inr none), .inr (.inr none), .inr (.inr none)])) := S.1
    have B1 : g3 q1 = some ([31, u], ar_i 12 (fun _ => 0)) := S.2.2 _ _ _ B1 (by simp)
    have B2 : g3 q2 = some ([32, u], ar_i 12 (fun _ => 0)) := S.2.2 _ _ _ B2 (by simp)
    have B3 : g3 q3 = some ([33, u], ar_i 12 (fun _ => 0)) := S.2.1
    have H3 := hg_tr H2 S.2.2
    clear S A2 H2 e3
    refine ⟨by decide, Nat.le_of_ble_eq_true rfl, Nat.le_of_ble_eq_true rfl, Nat.le_of_ble_eq_true rfl, [34, u], fun q7 e7 => ⟨_, _, up_nq A3 e7, Nat.le_of_ble_eq_true rfl, ?_⟩⟩
    have S := li_1 (lab := [34, u]) A3 e7 7 (ar_z 13 (fun _ => 0)) (by simp)
    rw [show (13 : Int32).toNatClampNeg = 13 from rfl]
    generalize va_up (va_up _ q7 _) h _ = g4 at S ⊢
    have A4 : g4 h = some ([30, u], .inr (5, [.inl 0, .inr (.inr (some q1)), .inr (.inr (some q2)), .inr (.inr (some q3)), .inl 0, .inr (.inr none), .inr (.inr none), .inr (.inr (some q7)), .inr (.inr none), .inr (.inr none), .inr (.inr none)])) := S.1
    have B1 : g4 q1 = some ([31, u], ar_i 12 (fun _ => 0)) := S.2.2 _ _ _ B1 (by simp)
    have B2 : g4 q2 = some ([32, u], ar_i 12 (fun _ => 0)) := S.2.2 _ _ _ B2 (by simp)
    have B3 : g4 q3 = some ([33, u], ar_i 12 (fun _ => 0)) := S.2.2 _ _ _ B3 (by simp)
    have B7 : g4 q7 = some ([34, u], ar_z 13 (fun _ => 0)) := S.2.1
    have H4 := hg_tr H3 S.2.2
    clear S A3 H3 e7
    refine ⟨by decide, by decide, by decide, by decide, Nat.le_of_ble_eq_true rfl, Nat.le_of_ble_eq_true rfl, [35, u], (fun i => [36, u, i]), fun q8 rr8 e8 er8 ij8 => ?_⟩
    rw [show (13 : Int32).toNatClampNeg = 13 from rfl, show (12 : Int32).toNatClampNeg = 12 from rfl]
    rw [show (13 : Int32).toNatClampNeg = 13 from rfl] at er8 ij8
    have S := li_2 (lab := [35, u]) (bi := fun i => [36, u, i]) (n := 13) A4 e8 er8 ij8 8 (ar_i 12 (fun _ => 0)) (ar_r 6 13 (fun i => if i < 13 then some (rr8 i) else none)) (by simp) (fun i => by simp)
    have hq8 : mnU g4 rr8 (fun i => [36, u, i]) (ar_i 12 (fun _ => 0)) 13 q8 = none := by rw [mnU_ne 13 (fun i hi => (er8 i hi).2)]; exact e8
    have hm8 := mnU_hg (S := fun _ => False) (bi := fun i => [36, u, i]) (e := ar_i 12 (fun _ => 0)) 13 (fun i hi => (er8 i hi).1) _ _ _ A4 (fun h => h)
    refine ⟨_, _, up_nq hm8 hq8, Nat.le_of_ble_eq_true rfl, ?_⟩
    clear hq8 hm8
    generalize va_up (va_up _ q8 _) h _ = g5 at S ⊢
    have A5 : g5 h = some ([30, u], .inr (5, [.inl 0, .inr (.inr (some q1)), .inr (.inr (some q2)), .inr (.inr (some q3)), .inl 0, .inr (.inr none), .inr (.inr none), .inr (.inr (some q7)), .inr (.inr (some q8)), .inr (.inr none), .inr (.inr none)])) := S.1
    have B1 : g5 q1 = some ([31, u], ar_i 12 (fun _ => 0)) := S.2.2.2 _ _ _ B1 (by simp)
    have B2 : g5 q2 = some ([32, u], ar_i 12 (fun _ => 0)) := S.2.2.2 _ _ _ B2 (by simp)
    have B3 : g5 q3 = some ([33, u], ar_i 12 (fun _ => 0)) := S.2.2.2 _ _ _ B3 (by simp)
    have B7 : g5 q7 = some ([34, u], ar_z 13 (fun _ => 0)) := S.2.2.2 _ _ _ B7 (by simp)
    have B8 : g5 q8 = some ([35, u], ar_r 6 13 (fun i => if i < 13 then some (rr8 i) else none)) := S.2.1
    have C8 : ∀ i, i < 13 → g5 (rr8 i) = some ([36, u, i], ar_i 12 (fun _ => 0)) := S.2.2.1
    have H5 := hg_tr H4 S.2.2.2
    clear S A4 H4 e8 er8 ij8
    refine ⟨by decide, by decide, by decide, by decide, Nat.le_of_ble_eq_true rfl, Nat.le_of_ble_eq_true rfl, [37, u], (fun i => [38, u, i]), fun q9 rr9 e9 er9 ij9 => ?_⟩
    rw [show (13 : Int32).toNatClampNeg = 13 from rfl, show (12 : Int32).toNatClampNeg = 12 from rfl]
    rw [show (13 : Int32).toNatClampNeg = 13 from rfl] at er9 ij9
    have S := li_2 (lab := [37, u]) (bi := fun i => [38, u, i]) (n := 13) A5 e9 er9 ij9 9 (ar_i 12 (fun _ => 0)) (ar_r 6 13 (fun i => if i < 13 then some (rr9 i) else none)) (by simp) (fun i => by simp)
    have hq9 : mnU g5 rr9 (fun i => [38, u, i]) (ar_i 12 (fun _ => 0)) 13 q9 = none := by rw [mnU_ne 13 (fun i hi => (er9 i hi).2)]; exact e9
    have hm9 := mnU_hg (S := fun _ => False) (bi := fun i => [38, u, i]) (e := ar_i 12 (fun _ => 0)) 13 (fun i hi => (er9 i hi).1) _ _ _ A5 (fun h => h)
    refine ⟨_, _, up_nq hm9 hq9, Nat.le_of_ble_eq_true rfl, ?_⟩
    clear hq9 hm9
    generalize va_up (va_up _ q9 _) h _ = g6 at S ⊢
    have A6 : g6 h = some ([30, u], .inr (5, [.inl 0, .inr (.inr (some q1)), .inr (.inr (some q2)), .inr (.inr (some q3)), .inl 0, .inr (.inr none), .inr (.inr none), .inr (.inr (some q7)), .inr (.inr (some q8)), .inr (.inr (some q9)), .inr (.inr none)])) := S.1
    have B1 : g6 q1 = some ([31, u], ar_i 12 (fun _ => 0)) := S.2.2.2 _ _ _ B1 (by simp)
    have B2 : g6 q2 = some ([32, u], ar_i 12 (fun _ => 0)) := S.2.2.2 _ _ _ B2 (by simp)
    have B3 : g6 q3 = some ([33, u], ar_i 12 (fun _ => 0)) := S.2.2.2 _ _ _ B3 (by simp)
    have B7 : g6 q7 = some ([34, u], ar_z 13 (fun _ => 0)) := S.2.2.2 _ _ _ B7 (by simp)
    have B8 : g6 q8 = some ([35, u], ar_r 6 13 (fun i => if i < 13 then some (rr8 i) else none)) := S.2.2.2 _ _ _ B8 (by simp)
    have C8 : ∀ i, i < 13 → g6 (rr8 i) = some ([36, u, i], ar_i 12 (fun _ => 0)) := fun i hi => S.2.2.2 _ _ _ (C8 i hi) (by simp)
    have B9 : g6 q9 = some ([37, u], ar_r 6 13 (fun i => if i < 13 then some (rr9 i) else none)) := S.2.1
    have C9 : ∀ i, i < 13 → g6 (rr9 i) = some ([38, u, i], ar_i 12 (fun _ => 0)) := S.2.2.1
    have H6 := hg_tr H5 S.2.2.2
    clear S A5 H5 e9 er9 ij9
    refine ⟨by decide, Nat.le_of_ble_eq_true rfl, Nat.le_of_ble_eq_true rfl, Nat.le_of_ble_eq_true rfl, [39, u], fun q10 e10 => ⟨_, _, up_nq A6 e10, Nat.le_of_ble_eq_true rfl, ?_⟩⟩
    have S := li_1 (lab := [39, u]) A6 e10 10 (ar_i 12 (fun _ => 0)) (by simp)
    rw [show (12 : Int32).toNatClampNeg = 12 from rfl]
    generalize va_up (va_up _ q10 _) h _ = g7 at S ⊢
    have A7 : g7 h = some ([30, u], .inr (5, [.inl 0, .inr (.inr (some q1)), .inr (.inr (some q2)), .inr (.inr (some q3)), .inl 0, .inr (.inr none), .inr (.inr none), .inr (.inr (some q7)), .inr (.inr (some q8)), .inr (.inr (some q9)), .inr (.inr (some q10))])) := S.1
    have B1 : g7 q1 = some ([31, u], ar_i 12 (fun _ => 0)) := S.2.2 _ _ _ B1 (by simp)
    have B2 : g7 q2 = some ([32, u], ar_i 12 (fun _ => 0)) := S.2.2 _ _ _ B2 (by simp)
    have B3 : g7 q3 = some ([33, u], ar_i 12 (fun _ => 0)) := S.2.2 _ _ _ B3 (by simp)
    have B7 : g7 q7 = some ([34, u], ar_z 13 (fun _ => 0)) := S.2.2 _ _ _ B7 (by simp)
    have B8 : g7 q8 = some ([35, u], ar_r 6 13 (fun i => if i < 13 then some (rr8 i) else none)) := S.2.2 _ _ _ B8 (by simp)
    have C8 : ∀ i, i < 13 → g7 (rr8 i) = some ([36, u, i], ar_i 12 (fun _ => 0)) := fun i hi => S.2.2 _ _ _ (C8 i hi) (by simp)
    have B9 : g7 q9 = some ([37, u], ar_r 6 13 (fun i => if i < 13 then some (rr9 i) else none)) := S.2.2 _ _ _ B9 (by simp)
    have C9 : ∀ i, i < 13 → g7 (rr9 i) = some ([38, u, i], ar_i 12 (fun _ => 0)) := fun i hi => S.2.2 _ _ _ (C9 i hi) (by simp)
    have B10 : g7 q10 = some ([39, u], ar_i 12 (fun _ => 0)) := S.2.1
    have H7 := hg_tr H6 S.2.2
    clear S A6 H6 e10
    refine ⟨_, _, A7, Nat.le_of_ble_eq_true rfl, Nat.le_of_ble_eq_true rfl, Nat.le_of_ble_eq_true rfl, rfl, hg_up H7 A7 rfl, (fun k => if k = 1 then q1 else if k = 2 then q2 else if k = 3 then q3 else if k = 7 then q7 else if k = 8 then q8 else if k = 9 then q9 else q10), rr8, rr9, ⟨Nat.zero_le _, ⟨up_at, up_ne B1 A7 (by simp), up_ne B2 A7 (by simp), up_ne B3 A7 (by simp), ⟨_, up_ne B8 A7 (by simp), fun i hi => if_pos hi⟩, _, up_ne B9 A7 (by simp), fun i hi => if_pos hi⟩, rfl, fun q hq => absurd hq List.not_mem_nil, rfl, fun q hq => absurd hq List.not_mem_nil, fun k hk => absurd hk (Nat.not_lt_zero _)⟩, up_ne B7 A7 (by simp), fun i hi => up_ne (C8 i hi) A7 (by simp), fun i hi => up_ne (C9 i hi) A7 (by simp), _, up_ne B10 A7 (by simp)⟩
