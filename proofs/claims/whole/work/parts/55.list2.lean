/-! ArrayList: made, grown, added to, cleared -/
set_option maxRecDepth 20000 in
theorem bJxa1e45_init_da8c8_0 {X : pz_C} {rm : Room} {E : Option pz_V → pz_H → Prop} (hX : pz_X X cJxa1e45_init_da8c8 1 RJxa1e45) (hR : pz_Rt X cJxa1e45_init_da8c8 1 none rm E) (hrm : pz_rm X = rm) : ∀ lv st g c s, (zo_al 1 0 (zo_oin rm (zo_rv rm E))) 0 lv st g c s → pz_Z X 1 0 lv st g c s := by
  subst hrm
  exact (zs_aload_n hX dJxa1e45_init_da8c8_0 rfl (zs_oin hX mw_45541939 mw_98b694a7 mw_abc23770 dJxa1e45_init_da8c8_1 (zs_rv hR dJxa1e45_init_da8c8_4)))
def rm_Jxa1e45_init_da8c8 : Room := { frames := 1, cells := 0, slots := 0, locals := 12 }
abbrev gt_Jxa1e45_init_da8c8 : Type := Nat
def pr_Jxa1e45_init_da8c8 : gt_Jxa1e45_init_da8c8 → List pz_V → pz_H → Prop := fun h av g => av = [.inr (.inr (some (h)))]
def po_Jxa1e45_init_da8c8 : gt_Jxa1e45_init_da8c8 → List pz_V → pz_H → Option pz_V → pz_H → Prop := fun _ _ g v g' => v = none ∧ g' = g
theorem ct_Jxa1e45_init_da8c8 {G : pz_Gx} (hOk : pz_OK G) (gh : gt_Jxa1e45_init_da8c8) : pz_M G yJxa1e45_init_da8c8 cJxa1e45_init_da8c8 1 none rm_Jxa1e45_init_da8c8 (pr_Jxa1e45_init_da8c8 gh) (po_Jxa1e45_init_da8c8 gh) := by
  refine pz_ofZ (by decide) hOk.1 (Or.inl rfl) ?_ ?_
  · rintro av g rfl
    exact Nat.le_of_ble_eq_true rfl
  · rintro X hX hGX hrm hN av g rfl hR
    exact bJxa1e45_init_da8c8_0 hX hR hrm _ _ _ _ _ ⟨Nat.le_of_ble_eq_true rfl, Nat.le_of_ble_eq_true rfl, Nat.le_refl _, Nat.le_refl _, rfl, rfl⟩
set_option maxRecDepth 20000 in
theorem bJxc12de_init_da8c8_0 {X : pz_C} (hX : pz_X X cJxc12de_init_da8c8 1 RJxc12de) : ∀ lv st g c s, (zo_al 1 0 (pz_Z X 1)) 0 lv st g c s → pz_Z X 1 0 lv st g c s := (zs_aload_n hX dJxc12de_init_da8c8_0 rfl (fun _ _ _ _ _ h => h))
set_option maxRecDepth 20000 in
theorem bJxc12de_init_da8c8_1 {X : pz_C} {G : pz_Gx} {rm : Room} {E : Option pz_V → pz_H → Prop} (hX : pz_X X cJxc12de_init_da8c8 1 RJxc12de) (hR : pz_Rt X cJxc12de_init_da8c8 1 none rm E) (hrm : pz_rm X = rm) (hGX : pz_GX X G) (hOk : pz_OK G) (gh : gt_Jxa1e45_init_da8c8) (hr_Jxa1e45_init_da8c8 : rm_Jxa1e45_init_da8c8.frames + 1 ≤ rm.frames ∧ 8 + (1 + 11) + rm_Jxa1e45_init_da8c8.locals ≤ rm.locals) : ∀ lv st g c s, (zo_cI rm 0 3 rm_Jxa1e45_init_da8c8.cells rm_Jxa1e45_init_da8c8.slots (pr_Jxa1e45_init_da8c8 gh) (po_Jxa1e45_init_da8c8 gh) (zo_kv (zo_al 1 0 (zo_ic 1 (0) (zo_puti 1 0 (zo_rv rm E)))))) 1 lv st g c s → pz_Z X 1 1 lv st g c s := by
  subst hrm
  exact (zs_csI hX hGX (ct_Jxa1e45_init_da8c8 hOk gh) mw_d2a01495 mw_db60ebd7 mw_dedb4dee mw_eecdb2f6 rfl (by decide +kernel) hr_Jxa1e45_init_da8c8 dJxc12de_init_da8c8_1 (zs_kv (zs_aload_n hX dJxc12de_init_da8c8_4 rfl (zs_iconst hX dJxc12de_init_da8c8_5 (by decide) (zs_puti hX (C := RJx4a65c) (T := TJx4a65c) (N := 3) rfl in_Jx4a65c (by decide) mw_6f996c50 tyJx4a65c tyJx4a65c_ok nmJx4a65c (by decide +kernel) rfl dJxc12de_init_da8c8_6 (zs_rv hR dJxc12de_init_da8c8_9))))))
def rm_Jxc12de_init_da8c8 : Room := { frames := 2, cells := 0, slots := 0, locals := 32 }
abbrev gt_Jxc12de_init_da8c8 : Type := Nat × List Nat × List pz_V
def pr_Jxc12de_init_da8c8 : gt_Jxc12de_init_da8c8 → List pz_V → pz_H → Prop := fun (h, lb, fs) av g => av = [.inr (.inr (some (h)))] ∧ g h = some (lb, .inr (1, fs)) ∧ 0 < fs.length
def po_Jxc12de_init_da8c8 : gt_Jxc12de_init_da8c8 → List pz_V → pz_H → Option pz_V → pz_H → Prop := fun (h, lb, fs) _ g v g' => v = none ∧ g' = va_up g h (some (lb, .inr (1, fs.set 0 (.inl 0))))
theorem ct_Jxc12de_init_da8c8 {G : pz_Gx} (hOk : pz_OK G) (gh : gt_Jxc12de_init_da8c8) : pz_M G yJxc12de_init_da8c8 cJxc12de_init_da8c8 1 none rm_Jxc12de_init_da8c8 (pr_Jxc12de_init_da8c8 gh) (po_Jxc12de_init_da8c8 gh) := by
  obtain ⟨h, lb, fs⟩ := gh
  refine pz_ofZ (by decide) hOk.1 (Or.inl rfl) ?_ ?_
  · rintro av g ⟨rfl, -⟩
    exact Nat.le_of_ble_eq_true rfl
  · rintro X hX hGX hrm hN av g ⟨rfl, hg0, hl⟩ hR
    refine bJxc12de_init_da8c8_0 hX _ _ _ _ _ ?_
    refine bJxc12de_init_da8c8_1 hX hR hrm hGX hOk h (by decide) _ _ _ _ _ ⟨Nat.le_of_ble_eq_true rfl, ⟨h, [], rfl⟩, Nat.le_of_ble_eq_true rfl, Nat.le_of_ble_eq_true rfl, Nat.le_of_ble_eq_true rfl, rfl, ?_⟩
    rintro v g2 ⟨rfl, rfl⟩ -
    exact ⟨_, _, hg0, hl, Nat.le_of_ble_eq_true rfl, Nat.le_of_ble_eq_true rfl, rfl, rfl⟩
set_option maxRecDepth 20000 in
theorem bJx4a65c_init_da8c8_0 {X : pz_C} (hX : pz_X X cJx4a65c_init_da8c8 1 RJx4a65c) : ∀ lv st g c s, (zo_al 1 0 (pz_Z X 1)) 0 lv st g c s → pz_Z X 1 0 lv st g c s := (zs_aload_n hX dJx4a65c_init_da8c8_0 rfl (fun _ _ _ _ _ h => h))
set_option maxRecDepth 20000 in
theorem bJx4a65c_init_da8c8_1 {X : pz_C} {G : pz_Gx} {sa md mi : Nat} {rm : Room} {E : Option pz_V → pz_H → Prop} (hX : pz_X X cJx4a65c_init_da8c8 1 RJx4a65c) (hR : pz_Rt X cJx4a65c_init_da8c8 1 none rm E) (hrm : pz_rm X = rm) (hGX : pz_GX X G) (hOk : pz_O2 G sa md mi) (gh : gt_Jxc12de_init_da8c8) (hr_Jxc12de_init_da8c8 : rm_Jxc12de_init_da8c8.frames + 1 ≤ rm.frames ∧ 8 + (1 + 11) + rm_Jxc12de_init_da8c8.locals ≤ rm.locals) : ∀ lv st g c s, (zo_cI rm 0 3 rm_Jxc12de_init_da8c8.cells rm_Jxc12de_init_da8c8.slots (pr_Jxc12de_init_da8c8 gh) (po_Jxc12de_init_da8c8 gh) (zo_kv (zo_al 1 0 (zo_gst sa (zo_putr 1 1 (zo_rv rm E)))))) 1 lv st g c s → pz_Z X 1 1 lv st g c s := by
  subst hrm
  exact (zs_csI hX hGX (ct_Jxc12de_init_da8c8 hOk.1 gh) mw_d08883b7 mw_3ad7eb7a mw_5f7525d4 mw_d7b1b9a3 rfl (by decide +kernel) hr_Jxc12de_init_da8c8 dJx4a65c_init_da8c8_1 (zs_kv (zs_aload_n hX dJx4a65c_init_da8c8_4 rfl (zs_gst hX hGX (fun B U J h => (hOk.2 B U J h).2.2.2.1) mw_595609da dJx4a65c_init_da8c8_5 (zs_putr hX (C := RJx4a65c) (T := TJx4a65c) (N := 3) rfl in_Jx4a65c (by decide) mw_87e553ed tyJx4a65c tyJx4a65c_ok nmJx4a65c (ty := (.array (.object "java/lang/Object"))) (by decide +kernel) rfl rfl dJx4a65c_init_da8c8_8 (zs_rv hR dJx4a65c_init_da8c8_11))))))
def rm_Jx4a65c_init_da8c8 : Room := { frames := 3, cells := 0, slots := 0, locals := 52 }
abbrev gt_Jx4a65c_init_da8c8 : Type := Nat × List Nat
def pr_Jx4a65c_init_da8c8 (sa : Nat) : gt_Jx4a65c_init_da8c8 → List pz_V → pz_H → Prop := fun (h, lb) av g => av = [.inr (.inr (some (h)))] ∧ g h = some (lb, .inr (1, [.inl 0, .inr (.inr none), .inl 0]))
def po_Jx4a65c_init_da8c8 (sa : Nat) : gt_Jx4a65c_init_da8c8 → List pz_V → pz_H → Option pz_V → pz_H → Prop := fun (h, lb) _ g v g' => v = none ∧ g' = va_up g h (some (lb, .inr (1, [.inl 0, .inr (.inr (some (sa))), .inl 0])))
theorem ct_Jx4a65c_init_da8c8 {G : pz_Gx} {sa md mi : Nat} (hOk : pz_O2 G sa md mi) (gh : gt_Jx4a65c_init_da8c8) : pz_M G yJx4a65c_init_da8c8 cJx4a65c_init_da8c8 1 none rm_Jx4a65c_init_da8c8 (pr_Jx4a65c_init_da8c8 sa gh) (po_Jx4a65c_init_da8c8 sa gh) := by
  obtain ⟨h, lb⟩ := gh
  refine pz_ofZ (by decide) hOk.1.1 (Or.inl rfl) ?_ ?_
  · rintro av g ⟨rfl, -⟩
    exact Nat.le_of_ble_eq_true rfl
  · rintro X hX hGX hrm hN av g ⟨rfl, hg0⟩ hR
    refine bJx4a65c_init_da8c8_0 hX _ _ _ _ _ ?_
    refine bJx4a65c_init_da8c8_1 hX hR hrm hGX hOk (h, lb, _) (by decide) _ _ _ _ _ ⟨Nat.le_of_ble_eq_true rfl, ⟨h, [], rfl⟩, Nat.le_of_ble_eq_true rfl, Nat.le_of_ble_eq_true rfl, Nat.le_of_ble_eq_true rfl, ⟨rfl, hg0, Nat.le_of_ble_eq_true rfl⟩, ?_⟩
    rintro v g2 ⟨rfl, rfl⟩ -
    refine ⟨_, _, up_at, Nat.le_of_ble_eq_true rfl, Nat.le_of_ble_eq_true rfl, Nat.le_of_ble_eq_true rfl, rfl, ?_⟩
    rw [up_up]; rfl
set_option maxRecDepth 20000 in
theorem bJ8_newLength_cabcc_0 {X : pz_C} {rm : Room} (hX : pz_X X cJ8_newLength_cabcc 4 RJ8) (hrm : pz_rm X = rm) : ∀ lv st g c s, (zo_il 1 0 (zo_il 1 1 (zo_il 1 2 (zo_mm rm (fun x y => if x < y then y else x) (zo_iadd (zo_is 1 3 (zo_ic 1 (0) (zo_il 1 3 (zo_ic_ge 21 (pz_Z X 4)))))))))) 0 lv st g c s → pz_Z X 4 0 lv st g c s := by
  subst hrm
  exact (zs_iload_n hX dJ8_newLength_cabcc_0 rfl (zs_iload_n hX dJ8_newLength_cabcc_1 rfl (zs_iload_n hX dJ8_newLength_cabcc_2 rfl (zs_mmax hX mw_c2626106 mw_6e480681 mw_6c163f40 mw_9aca1025 dJ8_newLength_cabcc_3 (zs_iadd hX dJ8_newLength_cabcc_6 (zs_istore_n hX dJ8_newLength_cabcc_7 rfl (by decide) (zs_iconst hX dJ8_newLength_cabcc_8 (by decide) (zs_iload_n hX dJ8_newLength_cabcc_9 rfl (zs_ic_ge hX dJ8_newLength_cabcc_10 (by decide) (fun _ _ _ _ _ _ h => h))))))))))
set_option maxRecDepth 20000 in
theorem bJ8_newLength_cabcc_13 {X : pz_C} (hX : pz_X X cJ8_newLength_cabcc 4 RJ8) : ∀ lv st g c s, (zo_il 1 3 (zo_ic 2 (2147483639) (zo_ic_gt 21 (pz_Z X 4)))) 13 lv st g c s → pz_Z X 4 13 lv st g c s := (zs_iload_n hX dJ8_newLength_cabcc_13 rfl (zs_ldc hX dJ8_newLength_cabcc_14 mw_dbfefbf6 (zs_ic_gt hX dJ8_newLength_cabcc_16 (by decide) (fun _ _ _ _ _ _ h => h))))
set_option maxRecDepth 20000 in
theorem bJ8_newLength_cabcc_19 {X : pz_C} {rm : Room} {E : Option pz_V → pz_H → Prop} (hX : pz_X X cJ8_newLength_cabcc 4 RJ8) (hR : pz_Rt X cJ8_newLength_cabcc 4 (some .int) rm E) : ∀ lv st g c s, (zo_il 1 3 (zo_ri rm E)) 19 lv st g c s → pz_Z X 4 19 lv st g c s := (zs_iload_n hX dJ8_newLength_cabcc_19 rfl (zs_ri hR dJ8_newLength_cabcc_20))
def rm_J8_newLength_cabcc : Room := { frames := 1, cells := 0, slots := 0, locals := 30 }
abbrev gt_J8_newLength_cabcc : Type := Nat × Nat × Nat
def pr_J8_newLength_cabcc : gt_J8_newLength_cabcc → List pz_V → pz_H → Prop := fun (a, b, c) av g => av = [.inl (nI a), .inl (nI b), .inl (nI c)] ∧ a ≤ 1000 ∧ b ≤ 1000 ∧ c ≤ 1000 ∧ 0 < b
def po_J8_newLength_cabcc : gt_J8_newLength_cabcc → List pz_V → pz_H → Option pz_V → pz_H → Prop := fun (a, b, c) _ g v g' => g' = g ∧ v = some (.inl (nI (a + max b c)))
theorem ct_J8_newLength_cabcc {G : pz_Gx} (hOk : pz_OK G) (gh : gt_J8_newLength_cabcc) : pz_M G yJ8_newLength_cabcc cJ8_newLength_cabcc 4 (some .int) rm_J8_newLength_cabcc (pr_J8_newLength_cabcc gh) (po_J8_newLength_cabcc gh) := by
  obtain ⟨a, b, c⟩ := gh
  refine pz_ofZ (by decide) hOk.1 (Or.inr (Or.inl rfl)) ?_ ?_
  · rintro av g ⟨rfl, -⟩
    exact Nat.le_of_ble_eq_true rfl
  · rintro X hX hGX hrm - av g ⟨rfl, ha, hb, hc, hb0⟩ hR
    have hm : (if nI b < nI c then nI c else nI b) = nI (max b c) := by
      by_cases h : b < c
      · rw [if_pos ((ni_lt (by omega) (by omega)).mpr h), Nat.max_eq_right (by omega)]
      · rw [if_neg (fun e => h ((ni_lt (by omega) (by omega)).mp e)), Nat.max_eq_left (by omega)]
    have hmx : max b c ≤ 1000 := by omega
    have hmp : 0 < max b c := by omega
    have h13 : pz_Z X 4 13 [(3, .inl (nI (a + max b c))), (0, .inl (nI a)), (1, .inl (nI b)), (2, .inl (nI c))] [] g 0 0 := by
      refine bJ8_newLength_cabcc_13 hX _ _ _ _ _ ⟨fun q => absurd q ?_, fun _ => ?_⟩
      · rw [show (2147483639 : Int32) = nI 2147483639 from rfl]
        exact nI_nlt (by omega) (by omega)
      · exact bJ8_newLength_cabcc_19 hX hR _ _ _ _ _ ⟨Nat.le_refl _, Nat.le_refl _, rfl, rfl⟩
    refine bJ8_newLength_cabcc_0 hX hrm _ _ _ _ _ ⟨Nat.le_of_ble_eq_true rfl, Nat.le_of_ble_eq_true rfl, Nat.le_of_ble_eq_true rfl, Nat.le_of_ble_eq_true rfl, fun q => absurd q ?_, fun _ => ?_⟩
    · dsimp only
      rw [hm, nI_add]
      exact nI_nle (by omega) (by omega)
    · show pz_Z X 4 13 [(3, .inl (nI a + (if nI b < nI c then nI c else nI b))), (0, .inl (nI a)), (1, .inl (nI b)), (2, .inl (nI c))] [] g 0 0
      rw [hm, nI_add]
      exact h13
set_option maxRecDepth 20000 in
theorem bJ7_copyOf_6403c_0 {X : pz_C} {G : pz_Gx} {sa md mi : Nat} (hX : pz_X X cJ7_copyOf_6403c 4 RJ7) (hGX : pz_GX X G) (hOk : pz_O2 G sa md mi) : ∀ lv st g c s, (zo_al 1 2 (zo_ldM mi (zo_ac_ne 13 (pz_Z X 4)))) 0 lv st g c s → pz_Z X 4 0 lv st g c s := (zs_aload_n hX dJ7_copyOf_6403c_0 rfl (zs_ldM hX hGX (fun B U J h => (hOk.2 B U J h).2.2.2.2.2.2.2.2.2.2.1) mw_55821fa4 dJ7_copyOf_6403c_1 (zs_ac_ne hX dJ7_copyOf_6403c_3 (by decide) (fun _ _ _ _ _ _ h => h))))
set_option maxRecDepth 20000 in
theorem bJ7_copyOf_6403c_6 {X : pz_C} {G : pz_Gx} {sa md mi : Nat} {rm : Room} (hX : pz_X X cJ7_copyOf_6403c 4 RJ7) (hrm : pz_rm X = rm) (hGX : pz_GX X G) (hOk : pz_O2 G sa md mi) : ∀ lv st g c s, (zo_il 1 1 (zo_newq rm 5 (zo_goto 24 (pz_Z X 4)))) 6 lv st g c s → pz_Z X 4 6 lv st g c s := by
  subst hrm
  exact (zs_iload_n hX dJ7_copyOf_6403c_6 rfl (zs_newq hX hGX (C := "java/lang/Object") (fun B U J h => (hOk.2 B U J h).2.2.1) (fun _ => rfl) mw_4aef4bc2 dJ7_copyOf_6403c_7 (zs_goto hX dJ7_copyOf_6403c_10 (by decide) (fun _ _ _ _ _ _ h => h))))
set_option maxRecDepth 20000 in
theorem bJ7_copyOf_6403c_24 {X : pz_C} {G : pz_Gx} {sa md mi : Nat} {rm : Room} {E : Option pz_V → pz_H → Prop} (hX : pz_X X cJ7_copyOf_6403c 4 RJ7) (hR : pz_Rt X cJ7_copyOf_6403c 4 (some (.array (.object "java/lang/Object"))) rm E) (hrm : pz_rm X = rm) (hGX : pz_GX X G) (hOk : pz_O2 G sa md mi) : ∀ lv st g c s, (zo_as 1 3 (zo_al 1 0 (zo_ic 1 (0) (zo_al 1 3 (zo_ic 1 (0) (zo_al 1 0 (zo_alen (zo_il 1 1 (zo_mm rm (fun x y => if y < x then y else x) (zo_cpq rm (zo_al 1 3 (zo_rr rm E)))))))))))) 24 lv st g c s → pz_Z X 4 24 lv st g c s := by
  subst hrm
  exact (zs_astore_n hX dJ7_copyOf_6403c_24 rfl (by decide) (zs_aload_n hX dJ7_copyOf_6403c_25 rfl (zs_iconst hX dJ7_copyOf_6403c_26 (by decide) (zs_aload_n hX dJ7_copyOf_6403c_27 rfl (zs_iconst hX dJ7_copyOf_6403c_28 (by decide) (zs_aload_n hX dJ7_copyOf_6403c_29 rfl (zs_alen hX dJ7_copyOf_6403c_30 (zs_iload_n hX dJ7_copyOf_6403c_31 rfl (zs_mmin hX mw_81dd24f1 mw_69f65be3 mw_6c163f40 mw_d60f6dfd dJ7_copyOf_6403c_32 (zs_cpq hX hGX mw_92d3b04c mw_8f8ab746 mw_8bc07a23 mw_a1408da6 (fun B U J h => (hOk.2 B U J h).2.2.2.2.2.2.2.2.2.2.2.2) dJ7_copyOf_6403c_35 (zs_aload_n hX dJ7_copyOf_6403c_38 rfl (zs_rr (by first | exact Or.inl ⟨_, rfl⟩ | exact Or.inr ⟨_, rfl⟩) hR dJ7_copyOf_6403c_39))))))))))))
def rm_J7_copyOf_6403c : Room := { frames := 1, cells := 1, slots := 61, locals := 40 }
abbrev gt_J7_copyOf_6403c : Type := Nat × Nat × Nat × List Nat × List Nat × (Nat → Option Nat)
def cpS (g : pz_H) : Nat × Nat × Nat × List Nat × List Nat × (Nat → Option Nat) → Prop := fun (a, m, n, b, be, o) => g a = some (b, ar_r 5 n o) ∧ n ≤ m ∧ m ≤ 61 ∧ ∀ i, i < n → ∀ y, o i = some y → ∃ bv fs, g y = some (bv, .inr (5, fs))
def pr_J7_copyOf_6403c (mi : Nat) : gt_J7_copyOf_6403c → List pz_V → pz_H → Prop := fun (a, m, n, b, be, o) av g => av = [.inr (.inr (some (a))), .inl (nI m), .inr (.inr (some (mi)))] ∧ cpS g (a, m, n, b, be, o)
def po_J7_copyOf_6403c (mi : Nat) : gt_J7_copyOf_6403c → List pz_V → pz_H → Option pz_V → pz_H → Prop := fun (a, m, n, b, be, o) _ g v g' => ∃ q, g q = none ∧ v = some (.inr (.inr (some (q)))) ∧ g' = va_up g q (some (be, ar_r 5 m (va_cpy o (fun _ => none) 0 0 n)))
theorem ct_J7_copyOf_6403c {G : pz_Gx} {sa md mi : Nat} (hOk : pz_O2 G sa md mi) (gh : gt_J7_copyOf_6403c) : pz_M G yJ7_copyOf_6403c cJ7_copyOf_6403c 4 (some (.array (.object "java/lang/Object"))) rm_J7_copyOf_6403c (pr_J7_copyOf_6403c mi gh) (po_J7_copyOf_6403c mi gh) := by
  obtain ⟨a, m, n, b, be, o⟩ := gh
  refine pz_ofZ (by decide) hOk.1.1 (Or.inr (Or.inr (Or.inr (Or.inr (Or.inr ⟨_, rfl⟩))))) ?_ ?_
  · rintro av g ⟨rfl, -⟩
    exact Nat.le_of_ble_eq_true rfl
  · rintro X hX hGX hrm - av g ⟨rfl, hga, hnm, hm, hel⟩ hR
    have hcm : (nI m).toNatClampNeg = m := ni_cl (by omega)
    have hcn : (nI n).toNatClampNeg = n := ni_cl (by omega)
    have hmin : (if nI m < nI n then nI m else nI n) = nI n := if_neg (fun e => by have := (ni_lt (by omega) (by omega)).mp e; omega)
    refine bJ7_copyOf_6403c_0 hX hGX hOk _ _ _ _ _ ⟨fun q => absurd rfl q, fun _ => ?_⟩
    refine bJ7_copyOf_6403c_6 hX hrm hGX hOk _ _ _ _ _ ⟨nI_pos (by omega), by rw [hcm]; omega, Nat.le_of_ble_eq_true rfl, by rw [hcm]; show 0 + m ≤ 61; omega, be, fun q hq => ?_⟩
    rw [hcm]
    have hqa := up_nq (v := some (be, .inl (5, m, .inr (.inr (.inr (.inr (fun _ => none))))))) hga hq
    refine bJ7_copyOf_6403c_24 hX hR hrm hGX hOk _ _ _ _ _ ⟨_, _, _, hqa, Nat.le_of_ble_eq_true rfl, Nat.le_of_ble_eq_true rfl, Nat.le_of_ble_eq_true rfl, Nat.le_of_ble_eq_true rfl, by show 0 + m ≤ 61; omega, b, be, n, m, o, (fun _ => none), hqa, up_at, by decide, by decide, ?_, ?_, ?_, ?_, Nat.le_of_ble_eq_true rfl, by decide, Nat.le_of_ble_eq_true rfl, by show 0 + m ≤ 61; omega, q, hq, rfl, ?_⟩
    · show ¬ (if nI m < nI n then nI m else nI n) < 0
      rw [hmin]; exact nI_pos (by omega)
    · show (0 : Int32).toNatClampNeg + (if nI m < nI n then nI m else nI n).toNatClampNeg ≤ n
      rw [hmin, hcn]; exact Nat.le_of_eq (Nat.zero_add n)
    · show (0 : Int32).toNatClampNeg + (if nI m < nI n then nI m else nI n).toNatClampNeg ≤ m
      rw [hmin, hcn]; exact Nat.le_trans (Nat.le_of_eq (Nat.zero_add n)) hnm
    · show ∀ i, i < (if nI m < nI n then nI m else nI n).toNatClampNeg → ∀ y, o ((0 : Int32).toNatClampNeg + i) = some y → _
      rw [hmin, hcn]
      intro i hi y hy
      obtain ⟨bv, fs, hy2⟩ := hel i hi y (by rw [← hy]; exact congrArg o (Nat.zero_add i).symm)
      exact ⟨bv, fs, up_nq hy2 hq⟩
    · rw [up_up]
      show va_up g q (some (be, .inl (5, m, .inr (.inr (.inr (.inr (va_cpy o (fun _ => none) (0 : Int32).toNatClampNeg (0 : Int32).toNatClampNeg (if nI m < nI n then nI m else nI n).toNatClampNeg))))))) = _
      rw [hmin, hcn]; rfl
set_option maxRecDepth 20000 in
theorem bJ7_copyOf_1904c_0 {X : pz_C} {G : pz_Gx} {sa md mi : Nat} {rm : Room} (hX : pz_X X cJ7_copyOf_1904c 2 RJ7) (hrm : pz_rm X = rm) (hGX : pz_GX X G) (hOk : pz_O2 G sa md mi) : ∀ lv st g c s, (zo_al 1 0 (zo_il 1 1 (zo_al 1 0 (zo_getC rm mi (pz_Z X 2))))) 0 lv st g c s → pz_Z X 2 0 lv st g c s := by
  subst hrm
  exact (zs_aload_n hX dJ7_copyOf_1904c_0 rfl (zs_iload_n hX dJ7_copyOf_1904c_1 rfl (zs_aload_n hX dJ7_copyOf_1904c_2 rfl (zs_getC hX hGX (fun B U J h => ⟨(hOk.2 B U J h).2.2.2.2.2.2.2.2.2.2.1, (hOk.2 B U J h).2.2.2.2.2.2.2.2.2.2.2.1⟩) mw_1ee5097c mw_af87ea1b mw_81615d74 mw_1a96af32 dJ7_copyOf_1904c_3 (fun _ _ _ _ _ h => h)))))
set_option maxRecDepth 20000 in
theorem bJ7_copyOf_1904c_6 {X : pz_C} {G : pz_Gx} {sa md mi : Nat} {rm : Room} {E : Option pz_V → pz_H → Prop} (hX : pz_X X cJ7_copyOf_1904c 2 RJ7) (hR : pz_Rt X cJ7_copyOf_1904c 2 (some (.array (.object "java/lang/Object"))) rm E) (hrm : pz_rm X = rm) (hGX : pz_GX X G) (hOk : pz_O2 G sa md mi) (gh : gt_J7_copyOf_6403c) (hr_J7_copyOf_6403c : rm_J7_copyOf_6403c.frames + 1 ≤ rm.frames ∧ 8 + (4 + 11) + rm_J7_copyOf_6403c.locals ≤ rm.locals) : ∀ lv st g c s, (zo_cs rm 3 3 rm_J7_copyOf_6403c.cells rm_J7_copyOf_6403c.slots (pr_J7_copyOf_6403c mi gh) (po_J7_copyOf_6403c mi gh) (zo_kr (zo_rr rm E))) 6 lv st g c s → pz_Z X 2 6 lv st g c s := by
  subst hrm
  exact (zs_csS hX hGX (ct_J7_copyOf_6403c hOk gh) mw_cf46f58b mw_d3fdbbcb mw_76fc92b1 mw_a05fd8a9 (by decide +kernel) hr_J7_copyOf_6403c dJ7_copyOf_1904c_6 (zs_kr (by first | exact Or.inl ⟨_, rfl⟩ | exact Or.inr ⟨_, rfl⟩) (zs_rr (by first | exact Or.inl ⟨_, rfl⟩ | exact Or.inr ⟨_, rfl⟩) hR dJ7_copyOf_1904c_9)))
def rm_J7_copyOf_1904c : Room := { frames := 2, cells := 1, slots := 61, locals := 63 }
abbrev gt_J7_copyOf_1904c : Type := Nat × Nat × Nat × List Nat × List Nat × (Nat → Option Nat)
def pr_J7_copyOf_1904c : gt_J7_copyOf_1904c → List pz_V → pz_H → Prop := fun (a, m, n, b, be, o) av g => av = [.inr (.inr (some (a))), .inl (nI m)] ∧ cpS g (a, m, n, b, be, o)
def po_J7_copyOf_1904c : gt_J7_copyOf_1904c → List pz_V → pz_H → Option pz_V → pz_H → Prop := fun (a, m, n, b, be, o) _ g v g' => ∃ q, g q = none ∧ v = some (.inr (.inr (some (q)))) ∧ g' = va_up g q (some (be, ar_r 5 m (va_cpy o (fun _ => none) 0 0 n)))
theorem ct_J7_copyOf_1904c {G : pz_Gx} {sa md mi : Nat} (hOk : pz_O2 G sa md mi) (gh : gt_J7_copyOf_1904c) : pz_M G yJ7_copyOf_1904c cJ7_copyOf_1904c 2 (some (.array (.object "java/lang/Object"))) rm_J7_copyOf_1904c (pr_J7_copyOf_1904c gh) (po_J7_copyOf_1904c gh) := by
  obtain ⟨a, m, n, b, be, o⟩ := gh
  refine pz_ofZ (by decide) hOk.1.1 (Or.inr (Or.inr (Or.inr (Or.inr (Or.inr ⟨_, rfl⟩))))) ?_ ?_
  · rintro av g ⟨rfl, -⟩
    exact Nat.le_of_ble_eq_true rfl
  · rintro X hX hGX hrm - av g ⟨rfl, hc⟩ hR
    refine bJ7_copyOf_1904c_0 hX hrm hGX hOk _ _ _ _ _ ⟨⟨_, _, _, hc.1⟩, Nat.le_of_ble_eq_true rfl, Nat.le_of_ble_eq_true rfl, ?_⟩
    refine bJ7_copyOf_1904c_6 hX hR hrm hGX hOk (a, m, n, b, be, o) (by decide) _ _ _ _ _ ⟨Nat.le_of_ble_eq_true rfl, Nat.le_of_ble_eq_true rfl, Nat.le_of_ble_eq_true rfl, Nat.le_of_ble_eq_true rfl, ⟨rfl, hc⟩, ?_⟩
    rintro v g2 ⟨q, hq, rfl, rfl⟩ z hz
    cases hz
    exact ⟨Nat.le_of_ble_eq_true rfl, Nat.le_of_ble_eq_true rfl, q, hq, rfl, rfl⟩
/-- a list of lines: its array is the empty one of all lists, or its own -/
def lsE (g : pz_H) (la : Nat) (bl be : List Nat) (sa n : Nat) (hl : Nat → Nat) : Prop := n ≤ 41 ∧ ∃ mc ed cap o, g la = some (bl, .inr (1, [.inl mc, .inr (.inr (some (ed))), .inl (nI n)])) ∧ ((ed = sa ∧ n = 0 ∧ cap = 0 ∧ True) ∨ (g ed = some (be, ar_r 5 cap o) ∧ 10 ≤ cap ∧ cap ≤ 61 ∧ n ≤ cap ∧ ∀ i, i < n → o i = some (hl i)))
theorem lsE_S {g : pz_H} {la sa n : Nat} {bl be : List Nat} {hl : Nat → Nat} (h : lsE g la bl be sa n hl) : lsS g la bl be n hl := by
  obtain ⟨h1, mc, ed, cap, o, h2, h3⟩ := h
  refine ⟨by omega, mc, some ed, h2, fun hn => ?_⟩
  rcases h3 with ⟨_, h4, _⟩ | ⟨h4, h5, h6, h7, h8⟩
  · omega
  · exact ⟨ed, cap, o, rfl, h4, h7, by omega, h8⟩
theorem lsE_mono {g g' : pz_H} {S : List Nat → Prop} (hh : hg S g g') {la sa n : Nat} {bl be : List Nat} {hl : Nat → Nat} (hS : ¬ S bl ∧ ¬ S be ∧ ¬ S [50]) (h : lsE g la bl be sa n hl) : lsE g' la bl be sa n hl := by
  obtain ⟨h1, mc, ed, cap, o, h2, h3⟩ := h
  refine ⟨h1, mc, ed, cap, o, hh _ _ _ h2 hS.1, ?_⟩
  rcases h3 with ⟨h4, h5, h6, h7⟩ | ⟨h4, h5⟩
  · exact Or.inl ⟨h4, h5, h6, trivial⟩
  · exact Or.inr ⟨hh _ _ _ h4 hS.2.1, h5⟩
set_option maxRecDepth 20000 in
theorem bJx4a65c_grow_92f84_0 {X : pz_C} {G : pz_Gx} {sa md mi : Nat} (hX : pz_X X cJx4a65c_grow_92f84 4 RJx4a65c) (hGX : pz_GX X G) (hOk : pz_O2 G sa md mi) : ∀ lv st g c s, (zo_al 1 0 (zo_get 1 1 (zo_lenS sa (zo_is 1 2 (zo_il 1 2 (zo_if_gt 20 (pz_Z X 4))))))) 0 lv st g c s → pz_Z X 4 0 lv st g c s := (zs_aload_n hX dJx4a65c_grow_92f84_0 rfl (zs_get hX (C := RJx4a65c) (T := TJx4a65c) (N := 3) rfl in_Jx4a65c (by decide) mw_87e553ed dJx4a65c_grow_92f84_1 (zs_lenS hX hGX (fun B U J h => (hOk.2 B U J h).2.2.2.2.2.1.1) dJx4a65c_grow_92f84_4 (zs_istore_n hX dJx4a65c_grow_92f84_5 rfl (by decide) (zs_iload_n hX dJx4a65c_grow_92f84_6 rfl (zs_if_gt hX dJx4a65c_grow_92f84_7 (by decide) (fun _ _ _ _ _ _ h => h)))))))
set_option maxRecDepth 20000 in
theorem bJx4a65c_grow_92f84_10 {X : pz_C} {G : pz_Gx} {sa md mi : Nat} (hX : pz_X X cJx4a65c_grow_92f84 4 RJx4a65c) (hGX : pz_GX X G) (hOk : pz_O2 G sa md mi) : ∀ lv st g c s, (zo_al 1 0 (zo_get 1 1 (zo_gst sa (zo_ac_eq 45 (pz_Z X 4))))) 10 lv st g c s → pz_Z X 4 10 lv st g c s := (zs_aload_n hX dJx4a65c_grow_92f84_10 rfl (zs_get hX (C := RJx4a65c) (T := TJx4a65c) (N := 3) rfl in_Jx4a65c (by decide) mw_87e553ed dJx4a65c_grow_92f84_11 (zs_gst hX hGX (fun B U J h => (hOk.2 B U J h).2.2.2.1) mw_595609da dJx4a65c_grow_92f84_14 (zs_ac_eq hX dJx4a65c_grow_92f84_17 (by decide) (fun _ _ _ _ _ _ h => h)))))
set_option maxRecDepth 20000 in
theorem bJx4a65c_grow_92f84_20 {X : pz_C} (hX : pz_X X cJx4a65c_grow_92f84 4 RJx4a65c) : ∀ lv st g c s, (zo_il 1 2 (zo_il 1 1 (zo_il 1 2 (zo_isub (zo_il 1 2 (zo_ic 1 (1) (zo_ishr (pz_Z X 4)))))))) 20 lv st g c s → pz_Z X 4 20 lv st g c s := (zs_iload_n hX dJx4a65c_grow_92f84_20 rfl (zs_iload_n hX dJx4a65c_grow_92f84_21 rfl (zs_iload_n hX dJx4a65c_grow_92f84_22 rfl (zs_isub hX dJx4a65c_grow_92f84_23 (zs_iload_n hX dJx4a65c_grow_92f84_24 rfl (zs_iconst hX dJx4a65c_grow_92f84_25 (by decide) (zs_ishr hX dJx4a65c_grow_92f84_26 (fun _ _ _ _ _ h => h))))))))
set_option maxRecDepth 20000 in
theorem bJx4a65c_grow_92f84_27 {X : pz_C} {G : pz_Gx} {sa md mi : Nat} {rm : Room} (hX : pz_X X cJx4a65c_grow_92f84 4 RJx4a65c) (hrm : pz_rm X = rm) (hGX : pz_GX X G) (hOk : pz_O2 G sa md mi) (gh : gt_J8_newLength_cabcc) (hr_J8_newLength_cabcc : rm_J8_newLength_cabcc.frames + 1 ≤ rm.frames ∧ 8 + (4 + 11) + rm_J8_newLength_cabcc.locals ≤ rm.locals) : ∀ lv st g c s, (zo_cs rm 3 3 rm_J8_newLength_cabcc.cells rm_J8_newLength_cabcc.slots (pr_J8_newLength_cabcc gh) (po_J8_newLength_cabcc gh) (zo_ki (zo_is 1 3 (zo_al 1 0 (zo_al 1 0 (zo_get 1 1 (zo_il 1 3 (pz_Z X 4)))))))) 27 lv st g c s → pz_Z X 4 27 lv st g c s := by
  subst hrm
  exact (zs_csS hX hGX (ct_J8_newLength_cabcc hOk.1 gh) mw_c5c1f191 mw_f844c067 mw_efe7719f mw_51a3ee7a (by decide +kernel) hr_J8_newLength_cabcc dJx4a65c_grow_92f84_27 (zs_ki (zs_istore_n hX dJx4a65c_grow_92f84_30 rfl (by decide) (zs_aload_n hX dJx4a65c_grow_92f84_31 rfl (zs_aload_n hX dJx4a65c_grow_92f84_32 rfl (zs_get hX (C := RJx4a65c) (T := TJx4a65c) (N := 3) rfl in_Jx4a65c (by decide) mw_87e553ed dJx4a65c_grow_92f84_33 (zs_iload_n hX dJx4a65c_grow_92f84_36 rfl (fun _ _ _ _ _ h => h))))))))
set_option maxRecDepth 20000 in
theorem bJx4a65c_grow_92f84_37 {X : pz_C} {G : pz_Gx} {sa md mi : Nat} {rm : Room} {E : Option pz_V → pz_H → Prop} (hX : pz_X X cJx4a65c_grow_92f84 4 RJx4a65c) (hR : pz_Rt X cJx4a65c_grow_92f84 4 (some (.array (.object "java/lang/Object"))) rm E) (hrm : pz_rm X = rm) (hGX : pz_GX X G) (hOk : pz_O2 G sa md mi) (gh : gt_J7_copyOf_1904c) (hr_J7_copyOf_1904c : rm_J7_copyOf_1904c.frames + 1 ≤ rm.frames ∧ 8 + (2 + 11) + rm_J7_copyOf_1904c.locals ≤ rm.locals) : ∀ lv st g c s, (zo_cs rm 2 3 rm_J7_copyOf_1904c.cells rm_J7_copyOf_1904c.slots (pr_J7_copyOf_1904c gh) (po_J7_copyOf_1904c gh) (zo_kr (zo_dupx1 (zo_putr 1 1 (zo_rr rm E))))) 37 lv st g c s → pz_Z X 4 37 lv st g c s := by
  subst hrm
  exact (zs_csS hX hGX (ct_J7_copyOf_1904c hOk gh) mw_8d1385c9 mw_7af37535 mw_76fc92b1 mw_55396bee (by decide +kernel) hr_J7_copyOf_1904c dJx4a65c_grow_92f84_37 (zs_kr (by first | exact Or.inl ⟨_, rfl⟩ | exact Or.inr ⟨_, rfl⟩) (zs_dupx1 hX dJx4a65c_grow_92f84_40 (zs_putr hX (C := RJx4a65c) (T := TJx4a65c) (N := 3) rfl in_Jx4a65c (by decide) mw_87e553ed tyJx4a65c tyJx4a65c_ok nmJx4a65c (ty := (.array (.object "java/lang/Object"))) (by decide +kernel) rfl rfl dJx4a65c_grow_92f84_41 (zs_rr (by first | exact Or.inl ⟨_, rfl⟩ | exact Or.inr ⟨_, rfl⟩) hR dJx4a65c_grow_92f84_44)))))
set_option maxRecDepth 20000 in
theorem bJx4a65c_grow_92f84_45 {X : pz_C} {G : pz_Gx} {sa md mi : Nat} {rm : Room} {E : Option pz_V → pz_H → Prop} (hX : pz_X X cJx4a65c_grow_92f84 4 RJx4a65c) (hR : pz_Rt X cJx4a65c_grow_92f84 4 (some (.array (.object "java/lang/Object"))) rm E) (hrm : pz_rm X = rm) (hGX : pz_GX X G) (hOk : pz_O2 G sa md mi) : ∀ lv st g c s, (zo_al 1 0 (zo_ic 2 (10) (zo_il 1 1 (zo_mm rm (fun x y => if x < y then y else x) (zo_newq rm 5 (zo_dupx1 (zo_putr 1 1 (zo_rr rm E)))))))) 45 lv st g c s → pz_Z X 4 45 lv st g c s := by
  subst hrm
  exact (zs_aload_n hX dJx4a65c_grow_92f84_45 rfl (zs_bipush hX dJx4a65c_grow_92f84_46 (by decide) (zs_iload_n hX dJx4a65c_grow_92f84_48 rfl (zs_mmax hX mw_59ac13c3 mw_6e480681 mw_6c163f40 mw_9aca1025 dJx4a65c_grow_92f84_49 (zs_newq hX hGX (C := "java/lang/Object") (fun B U J h => (hOk.2 B U J h).2.2.1) (fun _ => rfl) mw_9913ea36 dJx4a65c_grow_92f84_52 (zs_dupx1 hX dJx4a65c_grow_92f84_55 (zs_putr hX (C := RJx4a65c) (T := TJx4a65c) (N := 3) rfl in_Jx4a65c (by decide) mw_87e553ed tyJx4a65c tyJx4a65c_ok nmJx4a65c (ty := (.array (.object "java/lang/Object"))) (by decide +kernel) rfl rfl dJx4a65c_grow_92f84_56 (zs_rr (by first | exact Or.inl ⟨_, rfl⟩ | exact Or.inr ⟨_, rfl⟩) hR dJx4a65c_grow_92f84_59))))))))
def rm_Jx4a65c_grow_92f84 : Room := { frames := 3, cells := 1, slots := 61, locals := 84 }
abbrev gt_Jx4a65c_grow_92f84 : Type := Nat × (List Nat × List Nat) × Nat × (Nat × Nat) × (Nat → Option Nat) × Int32
/-- the list is full: of capacity n, or it never had an array -/
def grS (sa : Nat) (g : pz_H) : Nat × (List Nat × List Nat) × Nat × (Nat × Nat) × (Nat → Option Nat) × Int32 → Prop := fun (la, (bl, be), n, (ed, cap), o, mc) => n ≤ 40 ∧ bl ≠ be ∧ bl ≠ [50] ∧ g la = some (bl, .inr (1, [.inl mc, .inr (.inr (some (ed))), .inl (nI n)])) ∧ ((ed = sa ∧ n = 0 ∧ cap = 0 ∧ True) ∨ (g ed = some (be, ar_r 5 n o) ∧ 10 ≤ n ∧ cap = n ∧ ∀ i, i < n → ∀ y, o i = some y → ∃ bv fs, g y = some (bv, .inr (5, fs))))
def grP (g g' : pz_H) (v : Option pz_V) : Nat × (List Nat × List Nat) × Nat × (Nat × Nat) × (Nat → Option Nat) × Int32 → Prop := fun (la, (bl, be), n, (ed, cap), o, mc) => hg (fun b => b = bl) g g' ∧ ∃ q cap' o', g q = none ∧ v = some (.inr (.inr (some (q)))) ∧ g' la = some (bl, .inr (1, [.inl mc, .inr (.inr (some (q))), .inl (nI n)])) ∧ g' q = some (be, ar_r 5 cap' o') ∧ n + 1 ≤ cap' ∧ 10 ≤ cap' ∧ cap' ≤ 61 ∧ ∀ i, i < n → o' i = o i
def pr_Jx4a65c_grow_92f84 (sa : Nat) : gt_Jx4a65c_grow_92f84 → List pz_V → pz_H → Prop := fun (la, bb, n, ec, o, mc) av g => av = [.inr (.inr (some (la))), .inl (nI (n + 1))] ∧ grS sa g (la, bb, n, ec, o, mc)
def po_Jx4a65c_grow_92f84 (sa : Nat) : gt_Jx4a65c_grow_92f84 → List pz_V → pz_H → Option pz_V → pz_H → Prop := fun gh _ g v g' => grP g g' v gh
set_option maxRecDepth 20000 in
theorem ct_Jx4a65c_grow_92f84 {G : pz_Gx} {sa md mi : Nat} (hOk : pz_O2 G sa md mi) (gh : gt_Jx4a65c_grow_92f84) : pz_M G yJx4a65c_grow_92f84 cJx4a65c_grow_92f84 4 (some (.array (.object "java/lang/Object"))) rm_Jx4a65c_grow_92f84 (pr_Jx4a65c_grow_92f84 sa gh) (po_Jx4a65c_grow_92f84 sa gh) := by
  obtain ⟨la, ⟨bl, be⟩, n, ⟨ed, cap⟩, o, mc⟩ := gh
  refine pz_ofZ (by decide) hOk.1.1 (Or.inr (Or.inr (Or.inr (Or.inr (Or.inr ⟨_, rfl⟩))))) ?_ ?_
  · rintro av g ⟨rfl, -⟩
    exact Nat.le_of_ble_eq_true rfl
  · rintro X hX hGX hrm - av g ⟨rfl, hn, hbe, hb5, hla, hc⟩ hR
    rcases hc with ⟨rfl, rfl, rfl, hsa⟩ | ⟨hed, hn10, hcap, hel⟩
    · refine bJx4a65c_grow_92f84_0 hX hGX hOk _ _ _ _ _ ⟨_, _, _, hla, rfl, Or.inl ⟨rfl, fun q => absurd (show (0 : Int32) < 0 from q) (by decide), fun _ => ?_⟩⟩
      refine bJx4a65c_grow_92f84_10 hX hGX hOk _ _ _ _ _ ⟨_, _, _, hla, rfl, fun _ => ?_, fun q => absurd rfl q⟩
      refine bJx4a65c_grow_92f84_45 hX hR hrm hGX hOk _ _ _ _ _ ⟨Nat.le_of_ble_eq_true rfl, Nat.le_of_ble_eq_true rfl, Nat.le_of_ble_eq_true rfl, Nat.le_of_ble_eq_true rfl, by decide, by decide, Nat.le_of_ble_eq_true rfl, by decide, be, fun q hq => ⟨rfl, rfl, _, _, up_nq hla hq, Nat.le_of_ble_eq_true rfl, by decide, by decide, hg_up (hg_new hg_rf hq) (up_nq hla hq) rfl, q, 10, (fun _ => none), hq, rfl, up_at, up_ne up_at (up_nq hla hq) (fun e => hbe e.symm), by decide, by decide, by decide, fun i hi => absurd hi (Nat.not_lt_zero _)⟩⟩
    · subst hcap
      have hlen : Int32.ofNat cap = nI cap := rfl
      have e1 : nI (cap + 1) - nI cap = nI 1 := by
        have := pk_sub (a := cap + 1) (b := cap) (by omega)
        rw [Nat.add_sub_cancel_left] at this
        exact this
      have e2 : nI cap >>> ((1 : Int32) &&& 31) = nI (cap / 2) := by
        have k := pk_shrN (n := cap) (by omega) ((1 : Int32) &&& 31) 1 (by decide)
        rw [Nat.pow_one] at k
        exact k
      refine bJx4a65c_grow_92f84_0 hX hGX hOk _ _ _ _ _ ⟨_, _, _, hla, rfl, Or.inr ⟨_, _, _, hed, Nat.le_of_ble_eq_true rfl, fun _ => ?_, fun q => absurd ?_ q⟩⟩
      · refine bJx4a65c_grow_92f84_20 hX _ _ _ _ _ ?_
        show pz_Z X 4 27 [(2, .inl (nI cap)), (0, .inr (.inr (some (la)))), (1, .inl (nI (cap + 1)))] [.inl (nI cap >>> ((1 : Int32) &&& 31)), .inl (nI (cap + 1) - nI cap), .inl (nI cap)] g 0 0
        rw [e1, e2]
        refine bJx4a65c_grow_92f84_27 hX hrm hGX hOk (cap, 1, cap / 2) (by decide) _ _ _ _ _ ⟨Nat.le_of_ble_eq_true rfl, Nat.le_of_ble_eq_true rfl, Nat.le_of_ble_eq_true rfl, Nat.le_of_ble_eq_true rfl, ⟨rfl, by omega, by omega, by omega, by omega⟩, ?_⟩
        rintro v g2 ⟨rfl, rfl⟩ z hz
        cases hz
        have em : max 1 (cap / 2) = cap / 2 := by omega
        refine ⟨_, _, _, hla, rfl, ?_⟩
        refine bJx4a65c_grow_92f84_37 hX hR hrm hGX hOk (ed, cap + max 1 (cap / 2), cap, be, be, o) (by decide) _ _ _ _ _ ⟨Nat.le_of_ble_eq_true rfl, Nat.le_of_ble_eq_true rfl, Nat.le_of_ble_eq_true rfl, Nat.le_of_ble_eq_true rfl, ⟨rfl, hed, by omega, by omega, hel⟩, ?_⟩
        rintro v g2 ⟨q, hq, rfl, rfl⟩ z hz
        cases hz
        refine ⟨rfl, rfl, _, _, up_nq hla hq, Nat.le_of_ble_eq_true rfl, Nat.le_of_ble_eq_true rfl, Nat.le_of_ble_eq_true rfl, hg_up (hg_new hg_rf hq) (up_nq hla hq) rfl, q, cap + max 1 (cap / 2), _, hq, rfl, up_at, up_ne up_at (up_nq hla hq) (fun e => hbe e.symm), by omega, by omega, by omega, fun i hi => ?_⟩
        unfold va_cpy
        rw [if_pos (by omega)]
        exact congrArg o (by omega)
      · show 0 < nI cap
        rw [show (0 : Int32) = nI 0 from rfl]
        exact (ni_lt (by omega) (by omega)).mpr (by omega)
