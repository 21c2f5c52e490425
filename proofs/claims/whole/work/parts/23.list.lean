/-! java.util.ArrayList: size, isEmpty, get -/
set_option maxRecDepth 20000 in
theorem bJx4a65c_size_8abf5_0 {X : pz_C} {rm : Room} {E : Option pz_V → pz_H → Prop} (hX : pz_X X cJx4a65c_size_8abf5 1 RJx4a65c) (hR : pz_Rt X cJx4a65c_size_8abf5 1 (some .int) rm E) : ∀ lv st g c s, (zo_al 1 0 (zo_get 1 2 (zo_ri rm E))) 0 lv st g c s → pz_Z X 1 0 lv st g c s := (zs_aload_n hX dJx4a65c_size_8abf5_0 rfl (zs_get hX (C := RJx4a65c) (T := TJx4a65c) (N := 3) rfl in_Jx4a65c (by decide) mw_259fe66e dJx4a65c_size_8abf5_1 (zs_ri hR dJx4a65c_size_8abf5_4)))
set_option maxRecDepth 20000 in
theorem bJx4a65c_isEmpty_aae02_0 {X : pz_C} (hX : pz_X X cJx4a65c_isEmpty_aae02 1 RJx4a65c) : ∀ lv st g c s, (zo_al 1 0 (zo_get 1 2 (zo_if_ne 11 (pz_Z X 1)))) 0 lv st g c s → pz_Z X 1 0 lv st g c s := (zs_aload_n hX dJx4a65c_isEmpty_aae02_0 rfl (zs_get hX (C := RJx4a65c) (T := TJx4a65c) (N := 3) rfl in_Jx4a65c (by decide) mw_259fe66e dJx4a65c_isEmpty_aae02_1 (zs_if_ne hX dJx4a65c_isEmpty_aae02_4 (by decide) (fun _ _ _ _ _ _ h => h))))
set_option maxRecDepth 20000 in
theorem bJx4a65c_isEmpty_aae02_7 {X : pz_C} (hX : pz_X X cJx4a65c_isEmpty_aae02 1 RJx4a65c) : ∀ lv st g c s, (zo_ic 1 (1) (zo_goto 12 (pz_Z X 1))) 7 lv st g c s → pz_Z X 1 7 lv st g c s := (zs_iconst hX dJx4a65c_isEmpty_aae02_7 (by decide) (zs_goto hX dJx4a65c_isEmpty_aae02_8 (by decide) (fun _ _ _ _ _ _ h => h)))
set_option maxRecDepth 20000 in
theorem bJx4a65c_isEmpty_aae02_11 {X : pz_C} (hX : pz_X X cJx4a65c_isEmpty_aae02 1 RJx4a65c) : ∀ lv st g c s, (zo_ic 1 (0) (pz_Z X 1)) 11 lv st g c s → pz_Z X 1 11 lv st g c s := (zs_iconst hX dJx4a65c_isEmpty_aae02_11 (by decide) (fun _ _ _ _ _ h => h))
set_option maxRecDepth 20000 in
theorem bJx4a65c_isEmpty_aae02_12 {X : pz_C} {rm : Room} {E : Option pz_V → pz_H → Prop} (hX : pz_X X cJx4a65c_isEmpty_aae02 1 RJx4a65c) (hR : pz_Rt X cJx4a65c_isEmpty_aae02 1 (some .boolean) rm E) : ∀ lv st g c s, (zo_rz rm E) 12 lv st g c s → pz_Z X 1 12 lv st g c s := (zs_rz hR dJx4a65c_isEmpty_aae02_12)
def rm_Jx4a65c_size_8abf5 : Room := { frames := 0, cells := 0, slots := 0, locals := 0 }
abbrev gt_Jx4a65c_size_8abf5 : Type := Nat × Int32
def pr_Jx4a65c_size_8abf5 : gt_Jx4a65c_size_8abf5 → List pz_V → pz_H → Prop := fun (a, k) av g => av = [.inr (.inr (some a))] ∧ ∃ b fs, g a = some (b, .inr (1, fs)) ∧ fs[2]? = some (.inl k)
def po_Jx4a65c_size_8abf5 : gt_Jx4a65c_size_8abf5 → List pz_V → pz_H → Option pz_V → pz_H → Prop := fun (_, k) _ g v g' => g' = g ∧ v = some (.inl k)
theorem ct_Jx4a65c_size_8abf5 {G : pz_Gx} (hOk : pz_OK G) (gh : gt_Jx4a65c_size_8abf5) : pz_M G yJx4a65c_size_8abf5 cJx4a65c_size_8abf5 1 (some .int) rm_Jx4a65c_size_8abf5 (pr_Jx4a65c_size_8abf5 gh) (po_Jx4a65c_size_8abf5 gh) := by
  obtain ⟨a, k⟩ := gh
  refine pz_ofZ (by decide) hOk.1 (Or.inr (Or.inl rfl)) ?_ ?_
  · rintro av g ⟨rfl, -⟩
    exact Nat.le_of_ble_eq_true rfl
  · rintro X hX hGX hrm - av g ⟨rfl, b, fs, hg, hf⟩ hR
    exact bJx4a65c_size_8abf5_0 hX hR _ _ _ _ _ ⟨_, _, _, hg, hf, Nat.le_refl _, Nat.le_refl _, rfl, rfl⟩
def rm_Jx4a65c_isEmpty_aae02 : Room := { frames := 0, cells := 0, slots := 0, locals := 0 }
abbrev gt_Jx4a65c_isEmpty_aae02 : Type := Nat × Int32
def pr_Jx4a65c_isEmpty_aae02 : gt_Jx4a65c_isEmpty_aae02 → List pz_V → pz_H → Prop := fun (a, k) av g => av = [.inr (.inr (some a))] ∧ ∃ b fs, g a = some (b, .inr (1, fs)) ∧ fs[2]? = some (.inl k)
def po_Jx4a65c_isEmpty_aae02 : gt_Jx4a65c_isEmpty_aae02 → List pz_V → pz_H → Option pz_V → pz_H → Prop := fun (_, k) _ g v g' => g' = g ∧ v = some (.inl (if k = 0 then 1 else 0))
theorem ct_Jx4a65c_isEmpty_aae02 {G : pz_Gx} (hOk : pz_OK G) (gh : gt_Jx4a65c_isEmpty_aae02) : pz_M G yJx4a65c_isEmpty_aae02 cJx4a65c_isEmpty_aae02 1 (some .boolean) rm_Jx4a65c_isEmpty_aae02 (pr_Jx4a65c_isEmpty_aae02 gh) (po_Jx4a65c_isEmpty_aae02 gh) := by
  obtain ⟨a, k⟩ := gh
  refine pz_ofZ (by decide) hOk.1 (Or.inr (Or.inr (Or.inl rfl))) ?_ ?_
  · rintro av g ⟨rfl, -⟩
    exact Nat.le_of_ble_eq_true rfl
  · rintro X hX hGX hrm - av g ⟨rfl, b, fs, hg, hf⟩ hR
    refine bJx4a65c_isEmpty_aae02_0 hX _ _ _ _ _ ⟨_, _, _, hg, hf, fun q => ?_, fun q => ?_⟩
    · refine bJx4a65c_isEmpty_aae02_11 hX _ _ _ _ _ ?_
      exact bJx4a65c_isEmpty_aae02_12 hX hR _ _ _ _ _ ⟨Or.inl rfl, Nat.le_refl _, Nat.le_refl _, rfl, by rw [if_neg q]⟩
    · refine bJx4a65c_isEmpty_aae02_7 hX _ _ _ _ _ ?_
      exact bJx4a65c_isEmpty_aae02_12 hX hR _ _ _ _ _ ⟨Or.inr rfl, Nat.le_refl _, Nat.le_refl _, rfl, by rw [if_pos q]⟩
set_option maxRecDepth 20000 in
theorem bJ3_checkIndex_8e157_0 {X : pz_C} (hX : pz_X X cJ3_checkIndex_8e157 3 RJ3) : ∀ lv st g c s, (zo_il 1 0 (zo_if_lt 9 (pz_Z X 3))) 0 lv st g c s → pz_Z X 3 0 lv st g c s := (zs_iload_n hX dJ3_checkIndex_8e157_0 rfl (zs_if_lt hX dJ3_checkIndex_8e157_1 (by decide) (fun _ _ _ _ _ _ h => h)))
set_option maxRecDepth 20000 in
theorem bJ3_checkIndex_8e157_4 {X : pz_C} (hX : pz_X X cJ3_checkIndex_8e157 3 RJ3) : ∀ lv st g c s, (zo_il 1 0 (zo_il 1 1 (zo_ic_lt 16 (pz_Z X 3)))) 4 lv st g c s → pz_Z X 3 4 lv st g c s := (zs_iload_n hX dJ3_checkIndex_8e157_4 rfl (zs_iload_n hX dJ3_checkIndex_8e157_5 rfl (zs_ic_lt hX dJ3_checkIndex_8e157_6 (by decide) (fun _ _ _ _ _ _ h => h))))
set_option maxRecDepth 20000 in
theorem bJ3_checkIndex_8e157_16 {X : pz_C} {rm : Room} {E : Option pz_V → pz_H → Prop} (hX : pz_X X cJ3_checkIndex_8e157 3 RJ3) (hR : pz_Rt X cJ3_checkIndex_8e157 3 (some .int) rm E) : ∀ lv st g c s, (zo_il 1 0 (zo_ri rm E)) 16 lv st g c s → pz_Z X 3 16 lv st g c s := (zs_iload_n hX dJ3_checkIndex_8e157_16 rfl (zs_ri hR dJ3_checkIndex_8e157_17))
def rm_J3_checkIndex_8e157 : Room := { frames := 0, cells := 0, slots := 0, locals := 0 }
abbrev gt_J3_checkIndex_8e157 : Type := Int32 × Int32
def pr_J3_checkIndex_8e157 : gt_J3_checkIndex_8e157 → List pz_V → pz_H → Prop := fun (i, n) av _ => av = [.inl i, .inl n, .inr (.inr none)] ∧ ¬ i < 0 ∧ i < n
def po_J3_checkIndex_8e157 : gt_J3_checkIndex_8e157 → List pz_V → pz_H → Option pz_V → pz_H → Prop := fun (i, _) _ g v g' => g' = g ∧ v = some (.inl i)
theorem ct_J3_checkIndex_8e157 {G : pz_Gx} (hOk : pz_OK G) (gh : gt_J3_checkIndex_8e157) : pz_M G yJ3_checkIndex_8e157 cJ3_checkIndex_8e157 3 (some .int) rm_J3_checkIndex_8e157 (pr_J3_checkIndex_8e157 gh) (po_J3_checkIndex_8e157 gh) := by
  obtain ⟨i, n⟩ := gh
  refine pz_ofZ (by decide) hOk.1 (Or.inr (Or.inl rfl)) ?_ ?_
  · rintro av g ⟨rfl, -⟩
    exact Nat.le_of_ble_eq_true rfl
  · rintro X hX hGX hrm - av g ⟨rfl, h0, h1⟩ hR
    refine bJ3_checkIndex_8e157_0 hX _ _ _ _ _ ⟨fun q => absurd q h0, fun _ => ?_⟩
    refine bJ3_checkIndex_8e157_4 hX _ _ _ _ _ ⟨fun _ => ?_, fun q => absurd h1 q⟩
    exact bJ3_checkIndex_8e157_16 hX hR _ _ _ _ _ ⟨Nat.le_refl _, Nat.le_refl _, rfl, rfl⟩
set_option maxRecDepth 20000 in
theorem bJ15_checkIndex_7cf53_0 {X : pz_C} (hX : pz_X X cJ15_checkIndex_7cf53 2 RJ15) : ∀ lv st g c s, (zo_il 1 0 (zo_il 1 1 (zo_null (pz_Z X 2)))) 0 lv st g c s → pz_Z X 2 0 lv st g c s := (zs_iload_n hX dJ15_checkIndex_7cf53_0 rfl (zs_iload_n hX dJ15_checkIndex_7cf53_1 rfl (zs_null hX dJ15_checkIndex_7cf53_2 (fun _ _ _ _ _ h => h))))
set_option maxRecDepth 20000 in
theorem bJ15_checkIndex_7cf53_3 {X : pz_C} {G : pz_Gx} {rm : Room} {E : Option pz_V → pz_H → Prop} (hX : pz_X X cJ15_checkIndex_7cf53 2 RJ15) (hR : pz_Rt X cJ15_checkIndex_7cf53 2 (some .int) rm E) (hrm : pz_rm X = rm) (hGX : pz_GX X G) (hOk : pz_OK G) (gh : gt_J3_checkIndex_8e157) (hr_J3_checkIndex_8e157 : rm_J3_checkIndex_8e157.frames + 1 ≤ rm.frames ∧ 8 + (3 + 11) + rm_J3_checkIndex_8e157.locals ≤ rm.locals) : ∀ lv st g c s, (zo_cs rm 3 3 rm_J3_checkIndex_8e157.cells rm_J3_checkIndex_8e157.slots (pr_J3_checkIndex_8e157 gh) (po_J3_checkIndex_8e157 gh) (zo_ki (zo_ri rm E))) 3 lv st g c s → pz_Z X 2 3 lv st g c s := by
  subst hrm
  exact (zs_csS hX hGX (ct_J3_checkIndex_8e157 hOk gh) mw_884ab548 mw_ed9ff974 mw_607d3767 mw_bd75b55b (by decide +kernel) hr_J3_checkIndex_8e157 dJ15_checkIndex_7cf53_3 (zs_ki (zs_ri hR dJ15_checkIndex_7cf53_6)))
set_option maxRecDepth 20000 in
theorem bJx4a65c_elementData_915e3_0 {X : pz_C} {rm : Room} {E : Option pz_V → pz_H → Prop} (hX : pz_X X cJx4a65c_elementData_915e3 2 RJx4a65c) (hR : pz_Rt X cJx4a65c_elementData_915e3 2 (some (.object "java/lang/Object")) rm E) : ∀ lv st g c s, (zo_al 1 0 (zo_get 1 1 (zo_il 1 1 (zo_aald 5 (zo_rr rm E))))) 0 lv st g c s → pz_Z X 2 0 lv st g c s := (zs_aload_n hX dJx4a65c_elementData_915e3_0 rfl (zs_get hX (C := RJx4a65c) (T := TJx4a65c) (N := 3) rfl in_Jx4a65c (by decide) mw_87e553ed dJx4a65c_elementData_915e3_1 (zs_iload_n hX dJx4a65c_elementData_915e3_4 rfl (zs_aald hX (ty := (.object "java/lang/Object")) (fun _ => rfl) rfl dJx4a65c_elementData_915e3_5 (zs_rr (by first | exact Or.inl ⟨_, rfl⟩ | exact Or.inr ⟨_, rfl⟩) hR dJx4a65c_elementData_915e3_6)))))
def rm_J15_checkIndex_7cf53 : Room := { frames := 1, cells := 0, slots := 0, locals := 22 }
abbrev gt_J15_checkIndex_7cf53 : Type := Int32 × Int32
def pr_J15_checkIndex_7cf53 : gt_J15_checkIndex_7cf53 → List pz_V → pz_H → Prop := fun (i, n) av _ => av = [.inl i, .inl n] ∧ ¬ i < 0 ∧ i < n
def po_J15_checkIndex_7cf53 : gt_J15_checkIndex_7cf53 → List pz_V → pz_H → Option pz_V → pz_H → Prop := fun (i, _) _ g v g' => g' = g ∧ v = some (.inl i)
theorem ct_J15_checkIndex_7cf53 {G : pz_Gx} (hOk : pz_OK G) (gh : gt_J15_checkIndex_7cf53) : pz_M G yJ15_checkIndex_7cf53 cJ15_checkIndex_7cf53 2 (some .int) rm_J15_checkIndex_7cf53 (pr_J15_checkIndex_7cf53 gh) (po_J15_checkIndex_7cf53 gh) := by
  obtain ⟨i, n⟩ := gh
  refine pz_ofZ (by decide) hOk.1 (Or.inr (Or.inl rfl)) ?_ ?_
  · rintro av g ⟨rfl, -⟩
    exact Nat.le_of_ble_eq_true rfl
  · rintro X hX hGX hrm - av g ⟨rfl, h0, h1⟩ hR
    refine bJ15_checkIndex_7cf53_0 hX _ _ _ _ _ ?_
    refine bJ15_checkIndex_7cf53_3 hX hR hrm hGX hOk (i, n) (by decide) _ _ _ _ _ ⟨Nat.le_of_ble_eq_true rfl, Nat.le_of_ble_eq_true rfl, Nat.le_of_ble_eq_true rfl, Nat.le_of_ble_eq_true rfl, ⟨rfl, h0, h1⟩, ?_⟩
    rintro v g' ⟨rfl, rfl⟩ x hx
    cases hx
    exact ⟨Nat.le_refl _, Nat.le_refl _, rfl, rfl⟩
def rm_Jx4a65c_elementData_915e3 : Room := { frames := 0, cells := 0, slots := 0, locals := 0 }
abbrev gt_Jx4a65c_elementData_915e3 : Type := Nat × Nat × Nat × Nat × (Nat → Option Nat)
def pr_Jx4a65c_elementData_915e3 : gt_Jx4a65c_elementData_915e3 → List pz_V → pz_H → Prop := fun (a, i, e, cap, o) av g => av = [.inr (.inr (some a)), .inl (nI i)] ∧ i < cap ∧ cap ≤ 100000 ∧ ∃ b fs b2, g a = some (b, .inr (1, fs)) ∧ fs[1]? = some (.inr (.inr (some e))) ∧ g e = some (b2, ar_r 5 cap o)
def po_Jx4a65c_elementData_915e3 : gt_Jx4a65c_elementData_915e3 → List pz_V → pz_H → Option pz_V → pz_H → Prop := fun (_, i, _, _, o) _ g v g' => g' = g ∧ v = some (.inr (.inr (o i)))
theorem ct_Jx4a65c_elementData_915e3 {G : pz_Gx} (hOk : pz_OK G) (gh : gt_Jx4a65c_elementData_915e3) : pz_M G yJx4a65c_elementData_915e3 cJx4a65c_elementData_915e3 2 (some (.object "java/lang/Object")) rm_Jx4a65c_elementData_915e3 (pr_Jx4a65c_elementData_915e3 gh) (po_Jx4a65c_elementData_915e3 gh) := by
  obtain ⟨a, i, e, cap, o⟩ := gh
  refine pz_ofZ (by decide) hOk.1 (Or.inr (Or.inr (Or.inr (Or.inr (Or.inl ⟨_, rfl⟩))))) ?_ ?_
  · rintro av g ⟨rfl, -⟩
    exact Nat.le_of_ble_eq_true rfl
  · rintro X hX hGX hrm - av g ⟨rfl, hi, hc, b, fs, b2, hg, hf, he⟩ hR
    refine bJx4a65c_elementData_915e3_0 hX hR _ _ _ _ _ ⟨_, _, _, hg, hf, _, _, _, he, ni_in hi (by omega), Nat.le_refl _, Nat.le_refl _, rfl, ?_⟩
    rw [ni_cl (by omega)]
set_option maxRecDepth 20000 in
theorem bJx4a65c_get_915e3_0 {X : pz_C} (hX : pz_X X cJx4a65c_get_915e3 2 RJx4a65c) : ∀ lv st g c s, (zo_il 1 1 (zo_al 1 0 (zo_get 1 2 (pz_Z X 2)))) 0 lv st g c s → pz_Z X 2 0 lv st g c s := (zs_iload_n hX dJx4a65c_get_915e3_0 rfl (zs_aload_n hX dJx4a65c_get_915e3_1 rfl (zs_get hX (C := RJx4a65c) (T := TJx4a65c) (N := 3) rfl in_Jx4a65c (by decide) mw_259fe66e dJx4a65c_get_915e3_2 (fun _ _ _ _ _ h => h))))
set_option maxRecDepth 20000 in
theorem bJx4a65c_get_915e3_5 {X : pz_C} {G : pz_Gx} {rm : Room} (hX : pz_X X cJx4a65c_get_915e3 2 RJx4a65c) (hrm : pz_rm X = rm) (hGX : pz_GX X G) (hOk : pz_OK G) (gh : gt_J15_checkIndex_7cf53) (hr_J15_checkIndex_7cf53 : rm_J15_checkIndex_7cf53.frames + 1 ≤ rm.frames ∧ 8 + (2 + 11) + rm_J15_checkIndex_7cf53.locals ≤ rm.locals) : ∀ lv st g c s, (zo_cs rm 2 3 rm_J15_checkIndex_7cf53.cells rm_J15_checkIndex_7cf53.slots (pr_J15_checkIndex_7cf53 gh) (po_J15_checkIndex_7cf53 gh) (zo_ki (zo_pop (zo_al 1 0 (zo_il 1 1 (pz_Z X 2)))))) 5 lv st g c s → pz_Z X 2 5 lv st g c s := by
  subst hrm
  exact (zs_csS hX hGX (ct_J15_checkIndex_7cf53 hOk gh) mw_f8cecb24 mw_1dff5b38 mw_9f309c20 mw_c3226dac (by decide +kernel) hr_J15_checkIndex_7cf53 dJx4a65c_get_915e3_5 (zs_ki (zs_pop hX dJx4a65c_get_915e3_8 (zs_aload_n hX dJx4a65c_get_915e3_9 rfl (zs_iload_n hX dJx4a65c_get_915e3_10 rfl (fun _ _ _ _ _ h => h))))))
set_option maxRecDepth 20000 in
theorem bJx4a65c_get_915e3_11 {X : pz_C} {G : pz_Gx} {rm : Room} {E : Option pz_V → pz_H → Prop} (hX : pz_X X cJx4a65c_get_915e3 2 RJx4a65c) (hR : pz_Rt X cJx4a65c_get_915e3 2 (some (.object "java/lang/Object")) rm E) (hrm : pz_rm X = rm) (hGX : pz_GX X G) (hOk : pz_OK G) (gh : gt_Jx4a65c_elementData_915e3) (hr_Jx4a65c_elementData_915e3 : rm_Jx4a65c_elementData_915e3.frames + 1 ≤ rm.frames ∧ 8 + (2 + 11) + rm_Jx4a65c_elementData_915e3.locals ≤ rm.locals) : ∀ lv st g c s, (zo_cV rm 1 1 3 rm_Jx4a65c_elementData_915e3.cells rm_Jx4a65c_elementData_915e3.slots (pr_Jx4a65c_elementData_915e3 gh) (po_Jx4a65c_elementData_915e3 gh) (zo_kr (zo_rr rm E))) 11 lv st g c s → pz_Z X 2 11 lv st g c s := by
  subst hrm
  exact (zs_csV hX hGX (C := RJx4a65c) (T := TJx4a65c) (N := 3) rfl (ct_Jx4a65c_elementData_915e3 hOk gh) mw_4616b041 mw_56576ae4 mw_cc99cf04 mw_dd3bf01c mw_b1fefb9e (by decide +kernel) hr_Jx4a65c_elementData_915e3 dJx4a65c_get_915e3_11 (zs_kr (by first | exact Or.inl ⟨_, rfl⟩ | exact Or.inr ⟨_, rfl⟩) (zs_rr (by first | exact Or.inl ⟨_, rfl⟩ | exact Or.inr ⟨_, rfl⟩) hR dJx4a65c_get_915e3_14)))
/-- a list of objects: how many, and where -/
def lsS (g : pz_H) (la : Nat) (bl be : List Nat) (n : Nat) (hl : Nat → Nat) : Prop := n ≤ 100000 ∧ ∃ mc ed, g la = some (bl, .inr (1, [.inl mc, .inr (.inr ed), .inl (nI n)])) ∧ (0 < n → ∃ e cap o, ed = some e ∧ g e = some (be, ar_r 5 cap o) ∧ n ≤ cap ∧ cap ≤ 100000 ∧ ∀ i, i < n → o i = some (hl i))
theorem lsS_mono {g g' : pz_H} {S : List Nat → Prop} (hh : hg S g g') {la n : Nat} {bl be : List Nat} {hl : Nat → Nat} (hS : ¬ S bl ∧ ¬ S be) (h : lsS g la bl be n hl) : lsS g' la bl be n hl := by
  obtain ⟨h0, mc, ed, h1, h2⟩ := h
  refine ⟨h0, mc, ed, hh _ _ _ h1 hS.1, fun hn => ?_⟩
  obtain ⟨e, cap, o, a1, a2, a3⟩ := h2 hn
  exact ⟨e, cap, o, a1, hh _ _ _ a2 hS.2, a3⟩
def rm_Jx4a65c_get_915e3 : Room := { frames := 2, cells := 0, slots := 0, locals := 43 }
abbrev gt_Jx4a65c_get_915e3 : Type := Nat × Nat × List Nat × List Nat × Nat × (Nat → Nat)
def pr_Jx4a65c_get_915e3 : gt_Jx4a65c_get_915e3 → List pz_V → pz_H → Prop := fun (a, i, bl, be, n, hl) av g => av = [.inr (.inr (some a)), .inl (nI i)] ∧ i < n ∧ lsS g a bl be n hl
def po_Jx4a65c_get_915e3 : gt_Jx4a65c_get_915e3 → List pz_V → pz_H → Option pz_V → pz_H → Prop := fun (_, i, _, _, _, hl) _ g v g' => g' = g ∧ v = some (.inr (.inr (some (hl i))))
set_option maxRecDepth 20000 in
theorem ct_Jx4a65c_get_915e3 {G : pz_Gx} (hOk : pz_OK G) (gh : gt_Jx4a65c_get_915e3) : pz_M G yJx4a65c_get_915e3 cJx4a65c_get_915e3 2 (some (.object "java/lang/Object")) rm_Jx4a65c_get_915e3 (pr_Jx4a65c_get_915e3 gh) (po_Jx4a65c_get_915e3 gh) := by
  obtain ⟨a, i, bl, be, n, hl⟩ := gh
  refine pz_ofZ (by decide) hOk.1 (Or.inr (Or.inr (Or.inr (Or.inr (Or.inl ⟨_, rfl⟩))))) ?_ ?_
  · rintro av g ⟨rfl, -⟩
    exact Nat.le_of_ble_eq_true rfl
  · rintro X hX hGX hrm - av g ⟨rfl, hi, h0, mc, ed, hg, h2⟩ hR
    obtain ⟨e, cap, o, rfl, he, hc1, hc2, ho⟩ := h2 (by omega)
    refine bJx4a65c_get_915e3_0 hX _ _ _ _ _ ⟨_, _, _, hg, rfl, ?_⟩
    refine bJx4a65c_get_915e3_5 hX hrm hGX hOk (nI i, nI n) (by decide) _ _ _ _ _ ⟨Nat.le_of_ble_eq_true rfl, Nat.le_of_ble_eq_true rfl, Nat.le_of_ble_eq_true rfl, Nat.le_of_ble_eq_true rfl, ⟨rfl, nI_pos (by omega), (ni_lt (by omega) (by omega)).mpr hi⟩, ?_⟩
    rintro v g' ⟨rfl, rfl⟩ x hx
    cases hx
    refine ⟨rfl, ?_⟩
    refine bJx4a65c_get_915e3_11 hX hR hrm hGX hOk (a, i, e, cap, o) (by decide) _ _ _ _ _ ⟨Nat.le_of_ble_eq_true rfl, ⟨a, [.inl (nI i)], bl, _, rfl, hg⟩, Nat.le_of_ble_eq_true rfl, Nat.le_of_ble_eq_true rfl, Nat.le_of_ble_eq_true rfl, ⟨rfl, by omega, hc2, bl, _, be, hg, rfl, he⟩, ?_⟩
    rintro v g2 ⟨rfl, rfl⟩ x hx
    cases hx
    exact ⟨Nat.le_refl _, Nat.le_refl _, rfl, by rw [ho i hi]⟩
