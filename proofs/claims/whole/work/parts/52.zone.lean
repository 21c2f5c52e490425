/-! LineTimes$Place: rowFrom, addRow -/
theorem pl_mono2 {g g' : pz_H} {p : Nat} {S : List Nat → Prop} (hh : hg S g g') : ∀ (l : List (Int32 × Int32)) (r : Option Nat), (∀ q ∈ l, ¬ S [21, p, q.1.toNatClampNeg]) → pl_ch g p r l → pl_ch g' p r l
  | [], _, _, h => h
  | (f, m) :: l, r, hS, ⟨a, r', e, ha, h⟩ => ⟨a, r', e, hh _ _ _ ha (hS (f, m) List.mem_cons_self), pl_mono2 hh l r' (fun q hq => hS q (List.mem_cons_of_mem _ hq)) h⟩
theorem cl_inj {x y : Int32} (hx : 0 ≤ x.toInt) (hy : 0 ≤ y.toInt) (h : x.toNatClampNeg = y.toNatClampNeg) : x = y := by
  obtain ⟨j, hj, rfl⟩ := nI_of (x := x) (by rw [i3_lt]; exact Int.not_lt.mpr hx)
  obtain ⟨k, hk, rfl⟩ := nI_of (x := y) (by rw [i3_lt]; exact Int.not_lt.mpr hy)
  rw [nI_clamp hj, nI_clamp hk] at h
  rw [h]
theorem cl_lt {x y : Int32} (hx : 0 ≤ x.toInt) (hxy : x < y) : x.toNatClampNeg < y.toNatClampNeg := by
  rw [i3_lt] at hxy
  obtain ⟨j, hj, rfl⟩ := nI_of (x := x) (by rw [i3_lt]; exact Int.not_lt.mpr hx)
  obtain ⟨k, hk, rfl⟩ := nI_of (x := y) (by rw [i3_lt]; show ¬ y.toInt < 0; omega)
  rw [nI_toInt hj, nI_toInt hk] at hxy
  rw [nI_clamp hj, nI_clamp hk]
  omega
set_option maxRecDepth 20000 in
theorem bX5_rowFrom_0 {X : pz_C} (hX : pz_X X cX5_rowFrom 3 RX5) : ∀ lv st g c s, (zo_al 1 0 (zo_get 7 0 (zo_as 1 2 (pz_Z X 3)))) 0 lv st g c s → pz_Z X 3 0 lv st g c s := (zs_aload_n hX dX5_rowFrom_0 rfl (zs_get hX (C := RX5) (T := TX5) (N := 3) rfl in_X5 (by decide) mw_902ce658 dX5_rowFrom_1 (zs_astore_n hX dX5_rowFrom_4 rfl (by decide) (fun _ _ _ _ _ h => h))))
set_option maxRecDepth 20000 in
theorem bX5_rowFrom_5 {X : pz_C} (hX : pz_X X cX5_rowFrom 3 RX5) : ∀ lv st g c s, (zo_al 1 2 (zo_ifnull 27 (pz_Z X 3))) 5 lv st g c s → pz_Z X 3 5 lv st g c s := (zs_aload_n hX dX5_rowFrom_5 rfl (zs_ifnull hX dX5_rowFrom_6 (by decide) (fun _ _ _ _ _ _ h => h)))
set_option maxRecDepth 20000 in
theorem bX5_rowFrom_9 {X : pz_C} (hX : pz_X X cX5_rowFrom 3 RX5) : ∀ lv st g c s, (zo_al 1 2 (zo_get 10 0 (zo_il 1 1 (zo_ic_ne 19 (pz_Z X 3))))) 9 lv st g c s → pz_Z X 3 9 lv st g c s := (zs_aload_n hX dX5_rowFrom_9 rfl (zs_get hX (C := RX8) (T := TX8) (N := 3) rfl in_X8 (by decide) mw_8d18b59e dX5_rowFrom_10 (zs_iload_n hX dX5_rowFrom_13 rfl (zs_ic_ne hX dX5_rowFrom_14 (by decide) (fun _ _ _ _ _ _ h => h)))))
set_option maxRecDepth 20000 in
theorem bX5_rowFrom_17 {X : pz_C} {rm : Room} {E : Option pz_V → pz_H → Prop} (hX : pz_X X cX5_rowFrom 3 RX5) (hR : pz_Rt X cX5_rowFrom 3 (some (.object "LineTimes$ZoneRow")) rm E) : ∀ lv st g c s, (zo_al 1 2 (zo_rr rm E)) 17 lv st g c s → pz_Z X 3 17 lv st g c s := (zs_aload_n hX dX5_rowFrom_17 rfl (zs_rr (by first | exact Or.inl ⟨_, rfl⟩ | exact Or.inr ⟨_, rfl⟩) hR dX5_rowFrom_18))
set_option maxRecDepth 20000 in
theorem bX5_rowFrom_19 {X : pz_C} (hX : pz_X X cX5_rowFrom 3 RX5) : ∀ lv st g c s, (zo_al 1 2 (zo_get 10 2 (zo_as 1 2 (zo_goto 5 (pz_Z X 3))))) 19 lv st g c s → pz_Z X 3 19 lv st g c s := (zs_aload_n hX dX5_rowFrom_19 rfl (zs_get hX (C := RX8) (T := TX8) (N := 3) rfl in_X8 (by decide) mw_a66cadf3 dX5_rowFrom_20 (zs_astore_n hX dX5_rowFrom_23 rfl (by decide) (zs_goto hX dX5_rowFrom_24 (by decide) (fun _ _ _ _ _ _ h => h)))))
set_option maxRecDepth 20000 in
theorem bX5_rowFrom_27 {X : pz_C} {rm : Room} {E : Option pz_V → pz_H → Prop} (hX : pz_X X cX5_rowFrom 3 RX5) (hR : pz_Rt X cX5_rowFrom 3 (some (.object "LineTimes$ZoneRow")) rm E) : ∀ lv st g c s, (zo_null (zo_rr rm E)) 27 lv st g c s → pz_Z X 3 27 lv st g c s := (zs_null hX dX5_rowFrom_27 (zs_rr (by first | exact Or.inl ⟨_, rfl⟩ | exact Or.inr ⟨_, rfl⟩) hR dX5_rowFrom_28))
set_option maxRecDepth 20000 in
theorem bX5_addRow_0 {X : pz_C} (hX : pz_X X cX5_addRow 5 RX5) : ∀ lv st g c s, (zo_null (zo_as 1 3 (zo_al 1 0 (zo_get 7 0 (zo_as 2 4 (pz_Z X 5)))))) 0 lv st g c s → pz_Z X 5 0 lv st g c s := (zs_null hX dX5_addRow_0 (zs_astore_n hX dX5_addRow_1 rfl (by decide) (zs_aload_n hX dX5_addRow_2 rfl (zs_get hX (C := RX5) (T := TX5) (N := 3) rfl in_X5 (by decide) mw_902ce658 dX5_addRow_3 (zs_astore hX dX5_addRow_6 (by decide) (fun _ _ _ _ _ h => h))))))
set_option maxRecDepth 20000 in
theorem bX5_addRow_8 {X : pz_C} (hX : pz_X X cX5_addRow 5 RX5) : ∀ lv st g c s, (zo_al 2 4 (zo_ifnull 35 (pz_Z X 5))) 8 lv st g c s → pz_Z X 5 8 lv st g c s := (zs_aload hX dX5_addRow_8 (zs_ifnull hX dX5_addRow_10 (by decide) (fun _ _ _ _ _ _ h => h)))
set_option maxRecDepth 20000 in
theorem bX5_addRow_13 {X : pz_C} (hX : pz_X X cX5_addRow 5 RX5) : ∀ lv st g c s, (zo_al 2 4 (zo_get 10 0 (zo_il 1 1 (zo_ic_le 35 (pz_Z X 5))))) 13 lv st g c s → pz_Z X 5 13 lv st g c s := (zs_aload hX dX5_addRow_13 (zs_get hX (C := RX8) (T := TX8) (N := 3) rfl in_X8 (by decide) mw_8d18b59e dX5_addRow_15 (zs_iload_n hX dX5_addRow_18 rfl (zs_ic_le hX dX5_addRow_19 (by decide) (fun _ _ _ _ _ _ h => h)))))
set_option maxRecDepth 20000 in
theorem bX5_addRow_22 {X : pz_C} (hX : pz_X X cX5_addRow 5 RX5) : ∀ lv st g c s, (zo_al 2 4 (zo_as 1 3 (zo_al 2 4 (zo_get 10 2 (zo_as 2 4 (zo_goto 8 (pz_Z X 5))))))) 22 lv st g c s → pz_Z X 5 22 lv st g c s := (zs_aload hX dX5_addRow_22 (zs_astore_n hX dX5_addRow_24 rfl (by decide) (zs_aload hX dX5_addRow_25 (zs_get hX (C := RX8) (T := TX8) (N := 3) rfl in_X8 (by decide) mw_a66cadf3 dX5_addRow_27 (zs_astore hX dX5_addRow_30 (by decide) (zs_goto hX dX5_addRow_32 (by decide) (fun _ _ _ _ _ _ h => h)))))))
set_option maxRecDepth 20000 in
theorem bX5_addRow_35 {X : pz_C} (hX : pz_X X cX5_addRow 5 RX5) : ∀ lv st g c s, (zo_al 1 3 (zo_ifnonnull 59 (pz_Z X 5))) 35 lv st g c s → pz_Z X 5 35 lv st g c s := (zs_aload_n hX dX5_addRow_35 rfl (zs_ifnonnull hX dX5_addRow_36 (by decide) (fun _ _ _ _ _ _ h => h)))
set_option maxRecDepth 20000 in
theorem bX5_addRow_39 {X : pz_C} {rm : Room} (hX : pz_X X cX5_addRow 5 RX5) (hrm : pz_rm X = rm) : ∀ lv st g c s, (zo_al 1 0 (zo_new rm 10 3 [.inl 0, .inl 0, .inr (.inr none)] (zo_dup (zo_il 1 1 (zo_il 1 2 (zo_al 1 0 (zo_get 7 0 (pz_Z X 5)))))))) 39 lv st g c s → pz_Z X 5 39 lv st g c s := by
  subst hrm
  exact (zs_aload_n hX dX5_addRow_39 rfl (zs_new hX (C := RX8) (T := TX8) rfl in_X8 tyX8 tyX8_ok mw_8f4f6b68 mw_eb18f5ed mw_2423a86d (fun j hj => by rcases (show j = 0 ∨ j = 1 ∨ j = 2 by omega) with rfl | rfl | rfl <;> rfl) dX5_addRow_40 (zs_dup hX dX5_addRow_43 (zs_iload_n hX dX5_addRow_44 rfl (zs_iload_n hX dX5_addRow_45 rfl (zs_aload_n hX dX5_addRow_46 rfl (zs_get hX (C := RX5) (T := TX5) (N := 3) rfl in_X5 (by decide) mw_902ce658 dX5_addRow_47 (fun _ _ _ _ _ h => h))))))))
set_option maxRecDepth 20000 in
theorem bX5_addRow_50 {X : pz_C} {G : pz_Gx} {rm : Room} (hX : pz_X X cX5_addRow 5 RX5) (hrm : pz_rm X = rm) (hGX : pz_GX X G) (hOk : pz_OK G) (gh : gt_X8_init) (hr_X8_init : rm_X8_init.frames + 1 ≤ rm.frames ∧ 8 + (4 + 11) + rm_X8_init.locals ≤ rm.locals) : ∀ lv st g c s, (zo_cI rm 3 3 rm_X8_init.cells rm_X8_init.slots (pr_X8_init gh) (po_X8_init gh) (zo_kv (zo_putr 7 0 (zo_goto 76 (pz_Z X 5))))) 50 lv st g c s → pz_Z X 5 50 lv st g c s := by
  subst hrm
  exact (zs_csI hX hGX (ct_X8_init hOk gh) mw_904d6220 mw_de1751c3 mw_2423a86d mw_def0b114 rfl (by decide +kernel) hr_X8_init dX5_addRow_50 (zs_kv (zs_putr hX (C := RX5) (T := TX5) (N := 3) rfl in_X5 (by decide) mw_902ce658 tyX5 tyX5_ok nmX5 (ty := (.object "LineTimes$ZoneRow")) (by decide +kernel) rfl rfl dX5_addRow_53 (zs_goto hX dX5_addRow_56 (by decide) (fun _ _ _ _ _ _ h => h)))))
set_option maxRecDepth 20000 in
theorem bX5_addRow_59 {X : pz_C} {rm : Room} (hX : pz_X X cX5_addRow 5 RX5) (hrm : pz_rm X = rm) : ∀ lv st g c s, (zo_al 1 3 (zo_new rm 10 3 [.inl 0, .inl 0, .inr (.inr none)] (zo_dup (zo_il 1 1 (zo_il 1 2 (zo_al 1 3 (zo_get 10 2 (pz_Z X 5)))))))) 59 lv st g c s → pz_Z X 5 59 lv st g c s := by
  subst hrm
  exact (zs_aload_n hX dX5_addRow_59 rfl (zs_new hX (C := RX8) (T := TX8) rfl in_X8 tyX8 tyX8_ok mw_8f4f6b68 mw_eb18f5ed mw_2423a86d (fun j hj => by rcases (show j = 0 ∨ j = 1 ∨ j = 2 by omega) with rfl | rfl | rfl <;> rfl) dX5_addRow_60 (zs_dup hX dX5_addRow_63 (zs_iload_n hX dX5_addRow_64 rfl (zs_iload_n hX dX5_addRow_65 rfl (zs_aload_n hX dX5_addRow_66 rfl (zs_get hX (C := RX8) (T := TX8) (N := 3) rfl in_X8 (by decide) mw_a66cadf3 dX5_addRow_67 (fun _ _ _ _ _ h => h))))))))
set_option maxRecDepth 20000 in
theorem bX5_addRow_70 {X : pz_C} {G : pz_Gx} {rm : Room} (hX : pz_X X cX5_addRow 5 RX5) (hrm : pz_rm X = rm) (hGX : pz_GX X G) (hOk : pz_OK G) (gh : gt_X8_init) (hr_X8_init : rm_X8_init.frames + 1 ≤ rm.frames ∧ 8 + (4 + 11) + rm_X8_init.locals ≤ rm.locals) : ∀ lv st g c s, (zo_cI rm 3 3 rm_X8_init.cells rm_X8_init.slots (pr_X8_init gh) (po_X8_init gh) (zo_kv (zo_putr 10 2 (pz_Z X 5)))) 70 lv st g c s → pz_Z X 5 70 lv st g c s := by
  subst hrm
  exact (zs_csI hX hGX (ct_X8_init hOk gh) mw_904d6220 mw_de1751c3 mw_2423a86d mw_def0b114 rfl (by decide +kernel) hr_X8_init dX5_addRow_70 (zs_kv (zs_putr hX (C := RX8) (T := TX8) (N := 3) rfl in_X8 (by decide) mw_a66cadf3 tyX8 tyX8_ok nmX8 (ty := (.object "LineTimes$ZoneRow")) (by decide +kernel) rfl rfl dX5_addRow_73 (fun _ _ _ _ _ h => h))))
set_option maxRecDepth 20000 in
theorem bX5_addRow_76 {X : pz_C} {rm : Room} {E : Option pz_V → pz_H → Prop} (hX : pz_X X cX5_addRow 5 RX5) (hR : pz_Rt X cX5_addRow 5 none rm E) : ∀ lv st g c s, (zo_al 1 0 (zo_dup (zo_get 7 1 (zo_ic 1 (1) (zo_iadd (zo_puti 7 1 (zo_rv rm E))))))) 76 lv st g c s → pz_Z X 5 76 lv st g c s := (zs_aload_n hX dX5_addRow_76 rfl (zs_dup hX dX5_addRow_77 (zs_get hX (C := RX5) (T := TX5) (N := 3) rfl in_X5 (by decide) mw_d71ae628 dX5_addRow_78 (zs_iconst hX dX5_addRow_81 (by decide) (zs_iadd hX dX5_addRow_82 (zs_puti hX (C := RX5) (T := TX5) (N := 3) rfl in_X5 (by decide) mw_d71ae628 tyX5 tyX5_ok nmX5 (by decide +kernel) rfl dX5_addRow_83 (zs_rv hR dX5_addRow_86)))))))
abbrev zr_c (f m : Int32) (r : Option Nat) : pz_E := .inr (10, [.inl f, .inl m, .inr (.inr r)])
def rm_X5_rowFrom : Room := { frames := 0, cells := 0, slots := 0, locals := 0 }
abbrev gt_X5_rowFrom : Type := Nat × Int32 × Nat × List (Int32 × Int32) × Option Nat
def pr_X5_rowFrom : gt_X5_rowFrom → List pz_V → pz_H → Prop := fun (h, f, p, zs, r) av g => av = [.inr (.inr (some (h))), .inl (f)] ∧ 0 ≤ f.toInt ∧ zDs zs ∧ (∀ q ∈ zs, 0 ≤ q.1.toInt) ∧ (∃ b n c, g h = some (b, .inr (7, [.inr (.inr r), .inl n, .inl c]))) ∧ pl_ch g p r zs
def po_X5_rowFrom : gt_X5_rowFrom → List pz_V → pz_H → Option pz_V → pz_H → Prop := fun (h, f, p, zs, r) _ g v g' => g' = g ∧ ((z_get f zs = false ∧ v = some (.inr (.inr none))) ∨ (z_get f zs = true ∧ ∃ a m e, v = some (.inr (.inr (some (a)))) ∧ g a = some ([21, p, f.toNatClampNeg], zr_c f m e) ∧ ∀ m', pl_ch (va_up g a (some ([21, p, f.toNatClampNeg], zr_c f m' e))) p r (z_set f m' zs)))
set_option maxRecDepth 20000 in
theorem ct_X5_rowFrom {G : pz_Gx} (hOk : pz_OK G) (gh : gt_X5_rowFrom) : pz_M G yX5_rowFrom cX5_rowFrom 3 (some (.object "LineTimes$ZoneRow")) rm_X5_rowFrom (pr_X5_rowFrom gh) (po_X5_rowFrom gh) := by
  obtain ⟨h, f, p, zs, r⟩ := gh
  refine pz_ofZ (by decide) hOk.1 (Or.inr (Or.inr (Or.inr (Or.inr (Or.inl ⟨_, rfl⟩))))) ?_ ?_
  · rintro av g ⟨rfl, -⟩
    exact Nat.le_of_ble_eq_true rfl
  · rintro X hX hGX hrm - av g ⟨rfl, hf, hzd, hz0, ⟨b, n, c, hgh⟩, hz⟩ hR
    have loop : ∀ (zs2 : List (Int32 × Int32)) (r2 : Option Nat), pl_ch g p r2 zs2 → zDs zs2 → (∀ q ∈ zs2, 0 ≤ q.1.toInt) → (z_get f zs2 = false → z_get f zs = false) → (∀ a m e, g a = some ([21, p, f.toNatClampNeg], zr_c f m e) → z_get f zs2 = true → (∀ m', pl_ch (va_up g a (some ([21, p, f.toNatClampNeg], zr_c f m' e))) p r2 (z_set f m' zs2)) → z_get f zs = true ∧ ∀ m', pl_ch (va_up g a (some ([21, p, f.toNatClampNeg], zr_c f m' e))) p r (z_set f m' zs)) → pz_Z X 3 5 [(2, .inr (.inr r2)), (0, .inr (.inr (some h))), (1, .inl f)] [] g 0 0 := by
      intro zs2
      induction zs2 with
      | nil =>
        intro r2 h2 _ _ k1 _
        cases h2
        refine bX5_rowFrom_5 hX _ _ _ _ _ ⟨fun _ => ?_, fun a q => by cases q⟩
        exact bX5_rowFrom_27 hX hR _ _ _ _ _ ⟨Nat.le_refl _, Nat.le_refl _, rfl, Or.inl ⟨k1 rfl, rfl⟩⟩
      | cons z l ih =>
        intro r2 h2 hd2 hz2 k1 k2
        obtain ⟨hd3, hd4⟩ := List.pairwise_cons.mp hd2
        obtain ⟨f2, mi⟩ := z
        obtain ⟨a, r3, rfl, ha, h3⟩ := h2
        have hf2 : 0 ≤ f2.toInt := hz2 (f2, mi) List.mem_cons_self
        refine bX5_rowFrom_5 hX _ _ _ _ _ ⟨fun q => (by cases q), fun _ _ => ?_⟩
        refine bX5_rowFrom_9 hX _ _ _ _ _ ⟨_, _, _, ha, rfl, fun q => ?_, fun q => ?_⟩
        · have hne : ¬ f2 = f := q
          refine bX5_rowFrom_19 hX _ _ _ _ _ ⟨_, _, _, ha, rfl, ?_⟩
          have eg : z_get f ((f2, mi) :: l) = z_get f l := if_neg hne
          refine ih r3 h3 hd4 (fun q hq => hz2 q (List.mem_cons_of_mem _ hq)) (fun e => k1 (eg.trans e)) (fun a' m e ha' e1 e2 => k2 a' m e ha' (eg.trans e1) (fun m' => ?_))
          rw [show z_set f m' ((f2, mi) :: l) = (f2, mi) :: z_set f m' l from if_neg hne]
          refine ⟨a, r3, rfl, up_ne ha ha' (fun e => hne ?_), e2 m'⟩
          exact cl_inj hf2 hf (by injection e with _ e; injection e with _ e; injection e)
        · have he : f2 = f := q
          subst he
          obtain ⟨w1, w2⟩ := k2 a mi r3 ha (if_pos rfl) (fun m' => by
            rw [show z_set f2 m' ((f2, mi) :: l) = (f2, m') :: l from if_pos rfl]
            exact ⟨a, r3, rfl, up_at, pl_mono2 (hg_up (S := fun b => b = [21, p, f2.toNatClampNeg]) hg_rf ha rfl) l r3 (fun q hq e => by
              have h1 := cl_lt (hz2 q (List.mem_cons_of_mem _ hq)) (hd3 q hq)
              have h2 : q.1.toNatClampNeg = f2.toNatClampNeg := by injection e with _ e; injection e with _ e; injection e
              dsimp only at h1
              omega) h3⟩)
          exact bX5_rowFrom_17 hX hR _ _ _ _ _ ⟨Nat.le_refl _, Nat.le_refl _, rfl, Or.inr ⟨w1, a, mi, r3, rfl, ha, w2⟩⟩
    refine bX5_rowFrom_0 hX _ _ _ _ _ ⟨_, _, _, hgh, rfl, ?_⟩
    exact loop zs r hz hzd hz0 id (fun _ _ _ _ e1 e2 => ⟨e1, e2⟩)
/-- the rows of a place from a row's second down -/
def pl_S (p x : Nat) : List Nat → Prop := fun b => b = [20, p] ∨ ∃ y, b = [21, p, y] ∧ y ≤ x
def rm_X5_addRow : Room := { frames := 2, cells := 1, slots := 3, locals := 35 }
abbrev gt_X5_addRow : Type := Nat × Int32 × Int32 × Nat × List (Int32 × Int32) × Option Nat × Int32 × Int32
def pr_X5_addRow : gt_X5_addRow → List pz_V → pz_H → Prop := fun (h, f, m, p, zs, r, n, c) av g => av = [.inr (.inr (some (h))), .inl (f), .inl (m)] ∧ 0 ≤ f.toInt ∧ zDs zs ∧ (∀ q ∈ zs, 0 ≤ q.1.toInt ∧ q.1 ≠ f) ∧ g h = some ([20, p], .inr (7, [.inr (.inr r), .inl n, .inl c])) ∧ pl_ch g p r zs
def po_X5_addRow : gt_X5_addRow → List pz_V → pz_H → Option pz_V → pz_H → Prop := fun (h, f, m, p, zs, r, n, c) _ g v g' => v = none ∧ hg (fun b => b = [20, p] ∨ ∃ y, b = [21, p, y]) g g' ∧ ∃ r', g' h = some ([20, p], .inr (7, [.inr (.inr r'), .inl (n + 1), .inl c])) ∧ pl_ch g' p r' (z_ins f m zs)
set_option maxRecDepth 20000 in
set_option maxHeartbeats 4000000 in
theorem ct_X5_addRow {G : pz_Gx} (hOk : pz_OK G) (gh : gt_X5_addRow) : pz_M G yX5_addRow cX5_addRow 5 none rm_X5_addRow (pr_X5_addRow gh) (po_X5_addRow gh) := by
  obtain ⟨h, f, m, p, zs, r, n, c⟩ := gh
  refine pz_ofZ (by decide) hOk.1 (Or.inl rfl) ?_ ?_
  · rintro av g ⟨rfl, -⟩
    exact Nat.le_of_ble_eq_true rfl
  · rintro X hX hGX hrm - av g ⟨rfl, hf, hzd, hz0, hgh, hz⟩ hR
    have zlt : ∀ zs2 : List (Int32 × Int32), (∀ q ∈ zs2, q.1 < f) → z_ins f m zs2 = (f, m) :: zs2 := by
      intro zs2 hlt
      match zs2, hlt with
      | [], _ => rfl
      | (e, y) :: l, hlt =>
        have he : e < f := hlt (e, y) List.mem_cons_self
        exact if_neg (fun e2 => by rw [i3_lt] at he e2; omega)
    have tail : ∀ (zs2 : List (Int32 × Int32)) (r2 : Option Nat) (g' : pz_H) (a : Nat), pl_ch g p r2 zs2 → (∀ q ∈ zs2, q.1 < f ∧ 0 ≤ q.1.toInt) → g' a = some ([21, p, f.toNatClampNeg], zr_c f m r2) → hg (fun b => b = [20, p] ∨ ∃ y, b = [21, p, y] ∧ f.toNatClampNeg ≤ y) g g' → pl_ch g' p (some a) (z_ins f m zs2) := by
      intro zs2 r2 g' a h2 hlt ha hgg
      rw [zlt zs2 (fun q hq => (hlt q hq).1)]
      refine ⟨a, r2, rfl, ha, pl_mono2 hgg zs2 r2 (fun q hq e => ?_) h2⟩
      rcases e with e | ⟨y, e, hy⟩
      · cases e
      · have h1 := cl_lt (hlt q hq).2 (hlt q hq).1
        have h2 : q.1.toNatClampNeg = y := by injection e with _ e; injection e with _ e; injection e
        omega
    have fin : ∀ (g' : pz_H) (r' r2 la : Option Nat), hg (fun b => b = [20, p] ∨ ∃ y, b = [21, p, y]) g g' → g' h = some ([20, p], .inr (7, [.inr (.inr r'), .inl n, .inl c])) → pl_ch g' p r' (z_ins f m zs) → pz_Z X 5 76 [(4, .inr (.inr r2)), (3, .inr (.inr la)), (0, .inr (.inr (some (h)))), (1, .inl f), (2, .inl m)] [] g' 1 3 := by
      intro g' r' r2 la hgg hh hch
      refine bX5_addRow_76 hX hR _ _ _ _ _ ⟨rfl, _, _, _, hh, rfl, _, _, hh, Nat.le_of_ble_eq_true rfl, Nat.le_of_ble_eq_true rfl, Nat.le_of_ble_eq_true rfl, rfl, hg_up hgg hh (Or.inl rfl), r', up_at, ?_⟩
      exact pl_mono2 (hg_up (S := fun b => b = [20, p]) hg_rf hh rfl) _ r' (fun q _ e => by cases e) hch
    have exit : ∀ (zs2 : List (Int32 × Int32)) (r2 la : Option Nat), pl_ch g p r2 zs2 → (∀ q ∈ zs2, q.1 < f ∧ 0 ≤ q.1.toInt) → ((la = none ∧ r2 = r ∧ zs2 = zs) ∨ ∃ a fa ma, la = some a ∧ g a = some ([21, p, fa.toNatClampNeg], zr_c fa ma r2) ∧ f < fa ∧ ∀ g' r', hg (pl_S p fa.toNatClampNeg) g g' → g' a = some ([21, p, fa.toNatClampNeg], zr_c fa ma r') → pl_ch g' p r' (z_ins f m zs2) → pl_ch g' p r (z_ins f m zs)) → pz_Z X 5 35 [(4, .inr (.inr r2)), (3, .inr (.inr la)), (0, .inr (.inr (some (h)))), (1, .inl f), (2, .inl m)] [] g 0 0 := by
      intro zs2 r2 la h2 hlt hc
      rcases hc with ⟨rfl, rfl, rfl⟩ | ⟨a, fa, ma, rfl, ha, hfa, hK⟩
      · refine bX5_addRow_35 hX _ _ _ _ _ ⟨fun _ q => (by cases q), fun _ => ?_⟩
        refine bX5_addRow_39 hX hrm _ _ _ _ _ ⟨Nat.le_of_ble_eq_true rfl, Nat.le_of_ble_eq_true rfl, [21, p, f.toNatClampNeg], fun q hq => ⟨rfl, _, _, _, up_nq hgh hq, rfl, ?_⟩⟩
        refine bX5_addRow_50 hX hrm hGX hOk (q, [21, p, f.toNatClampNeg], f, m, r2) (by decide) _ _ _ _ _ ⟨Nat.le_of_ble_eq_true rfl, ⟨q, [.inl f, .inl m, .inr (.inr r2)], rfl⟩, Nat.le_of_ble_eq_true rfl, Nat.le_of_ble_eq_true rfl, Nat.le_of_ble_eq_true rfl, ⟨rfl, up_at⟩, ?_⟩
        rintro v g2 ⟨rfl, rfl⟩ -
        rw [up_up]
        refine ⟨_, _, up_nq hgh hq, Nat.le_of_ble_eq_true rfl, ?_⟩
        have hh := hg_new (v := some ([21, p, f.toNatClampNeg], zr_c f m r2)) (hg_rf (S := fun b => b = [20, p] ∨ ∃ y, b = [21, p, y])) hq
        refine fin _ (some q) _ _ (hg_up hh (up_nq hgh hq) (Or.inl rfl)) up_at (tail _ r2 _ q h2 hlt (up_ne up_at (up_nq hgh hq) (by simp)) ?_)
        exact hg_up (hg_new hg_rf hq) (up_nq hgh hq) (Or.inl rfl)
      · refine bX5_addRow_35 hX _ _ _ _ _ ⟨fun _ _ => ?_, fun q => by cases q⟩
        refine bX5_addRow_59 hX hrm _ _ _ _ _ ⟨Nat.le_of_ble_eq_true rfl, Nat.le_of_ble_eq_true rfl, [21, p, f.toNatClampNeg], fun q hq => ⟨rfl, _, _, _, up_nq ha hq, rfl, ?_⟩⟩
        refine bX5_addRow_70 hX hrm hGX hOk (q, [21, p, f.toNatClampNeg], f, m, r2) (by decide) _ _ _ _ _ ⟨Nat.le_of_ble_eq_true rfl, ⟨q, [.inl f, .inl m, .inr (.inr r2)], rfl⟩, Nat.le_of_ble_eq_true rfl, Nat.le_of_ble_eq_true rfl, Nat.le_of_ble_eq_true rfl, ⟨rfl, up_at⟩, ?_⟩
        rintro v g2 ⟨rfl, rfl⟩ -
        rw [up_up]
        refine ⟨_, _, up_nq ha hq, Nat.le_of_ble_eq_true rfl, ?_⟩
        have hcl := cl_lt hf hfa
        have hne : ([21, p, f.toNatClampNeg] : List Nat) ≠ [21, p, fa.toNatClampNeg] := fun e => by
          have : f.toNatClampNeg = fa.toNatClampNeg := by injection e with _ e; injection e with _ e; injection e
          omega
        refine fin _ r _ _ (hg_up (hg_new hg_rf hq) (up_nq ha hq) (Or.inr ⟨_, rfl⟩)) (up_ne (up_nq hgh hq) (up_nq ha hq) (by simp)) (hK _ (some q) ?_ up_at (tail _ r2 _ q h2 hlt (up_ne up_at (up_nq ha hq) hne) ?_))
        · exact hg_up (hg_new hg_rf hq) (up_nq ha hq) (Or.inr ⟨_, rfl, Nat.le_refl _⟩)
        · exact hg_up (hg_new hg_rf hq) (up_nq ha hq) (Or.inr ⟨_, rfl, by omega⟩)
    have loop : ∀ (zs2 : List (Int32 × Int32)) (r2 la : Option Nat), pl_ch g p r2 zs2 → zDs zs2 → (∀ q ∈ zs2, 0 ≤ q.1.toInt ∧ q.1 ≠ f) → ((la = none ∧ r2 = r ∧ zs2 = zs) ∨ ∃ a fa ma, la = some a ∧ g a = some ([21, p, fa.toNatClampNeg], zr_c fa ma r2) ∧ f < fa ∧ (∀ q ∈ zs2, q.1 < fa) ∧ ∀ g' r', hg (pl_S p fa.toNatClampNeg) g g' → g' a = some ([21, p, fa.toNatClampNeg], zr_c fa ma r') → pl_ch g' p r' (z_ins f m zs2) → pl_ch g' p r (z_ins f m zs)) → pz_Z X 5 8 [(4, .inr (.inr r2)), (3, .inr (.inr la)), (0, .inr (.inr (some (h)))), (1, .inl f), (2, .inl m)] [] g 0 0 := by
      intro zs2
      induction zs2 with
      | nil =>
        intro r2 la h2 _ _ hc
        cases h2
        refine bX5_addRow_8 hX _ _ _ _ _ ⟨fun _ => ?_, fun a q => by cases q⟩
        refine exit [] none la rfl (fun q hq => absurd hq List.not_mem_nil) ?_
        rcases hc with hc | ⟨a, fa, ma, e1, e2, e3, _, e4⟩
        · exact Or.inl hc
        · exact Or.inr ⟨a, fa, ma, e1, e2, e3, e4⟩
      | cons z l ih =>
        intro r2 la h2 hd2 hz2 hc
        obtain ⟨f2, m2⟩ := z
        obtain ⟨a2, r3, rfl, ha2, h3⟩ := id h2
        obtain ⟨hd3, hd4⟩ := List.pairwise_cons.mp hd2
        obtain ⟨hf20, hf2n⟩ := hz2 (f2, m2) List.mem_cons_self
        refine bX5_addRow_8 hX _ _ _ _ _ ⟨fun q => (by cases q), fun _ _ => ?_⟩
        refine bX5_addRow_13 hX _ _ _ _ _ ⟨_, _, _, ha2, rfl, fun q => ?_, fun q => ?_⟩
        · have hlt : f2 < f := by
            have q' : f2 ≤ f := q
            dsimp only at hf2n
            rw [i3_le] at q'; rw [i3_lt]; rw [ne_eq, i3_eq] at hf2n; omega
          refine exit ((f2, m2) :: l) (some a2) la h2 (fun q hq => ⟨?_, (hz2 q hq).1⟩) ?_
          · rcases List.mem_cons.mp hq with rfl | hq
            · exact hlt
            · have := hd3 q hq
              rw [i3_lt] at *; dsimp only at this; omega
          · rcases hc with hc | ⟨a, fa, ma, e1, e2, e3, _, e4⟩
            · exact Or.inl hc
            · exact Or.inr ⟨a, fa, ma, e1, e2, e3, e4⟩
        · have hlt : f < f2 := by
            have q' : ¬ f2 ≤ f := q
            rw [i3_le] at q'; rw [i3_lt]; omega
          refine bX5_addRow_22 hX _ _ _ _ _ ⟨_, _, _, ha2, rfl, ?_⟩
          have ez : z_ins f m ((f2, m2) :: l) = (f2, m2) :: z_ins f m l := if_pos hlt
          refine ih r3 (some a2) h3 hd4 (fun q hq => hz2 q (List.mem_cons_of_mem _ hq)) (Or.inr ⟨a2, f2, m2, rfl, ha2, hlt, hd3, fun g' r' hgg hga hch => ?_⟩)
          rcases hc with ⟨e0, e1, e2⟩ | ⟨a, fa, ma, e1, e2, e3, e4, e5⟩
          · rw [← e1, ← e2, ez]
            exact ⟨a2, r', rfl, hga, hch⟩
          · have hcl := cl_lt hf20 (e4 (f2, m2) List.mem_cons_self)
            dsimp only at hcl
            refine e5 g' (some a2) (hg_mono hgg (fun b hb => ?_)) (hgg _ _ _ e2 (fun hb => ?_)) (by rw [ez]; exact ⟨a2, r', rfl, hga, hch⟩)
            · rcases hb with hb | ⟨y, hb, hy⟩
              · exact Or.inl hb
              · exact Or.inr ⟨y, hb, by omega⟩
            · rcases hb with hb | ⟨y, hb, hy⟩
              · cases hb
              · have : fa.toNatClampNeg = y := by injection hb with _ e; injection e with _ e; injection e
                omega
    refine bX5_addRow_0 hX _ _ _ _ _ ⟨_, _, _, hgh, rfl, ?_⟩
    exact loop zs r none hz hzd hz0 (Or.inl ⟨rfl, rfl, rfl⟩)
