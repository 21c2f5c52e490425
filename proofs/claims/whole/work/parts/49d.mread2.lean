/-! the reference: readStop, read -/
section SS
variable (n : Nat) (f : Nat → Int32) (c : Nat) (lv : Int64) (a : Nat) (phi : Int32)
def s_1 : (Nat × Int32) × Int32 := p_nu n f 99 (a + 1, phi)
def s_2 : Nat × Int32 := p_bl n f (s_1 n f a phi).1
def s_3 : (Nat × Int32) × Int32 := p_nu n f 259200 (s_2 n f a phi)
def s_3f : Int32 := if 0 < c ∧ (s_3 n f a phi).2.toInt64 < lv then p_fl (s_3 n f a phi).1.2 (nI (s_2 n f a phi).1) else (s_3 n f a phi).1.2
def s_4 : Nat × Int32 := p_bl n f ((s_3 n f a phi).1.1, s_3f n f c lv a phi)
def s_5 : (Nat × Int32) × Int32 := p_nu n f 259200 (s_4 n f c lv a phi)
def s_5f : Int32 := if (s_5 n f c lv a phi).2 < (s_3 n f a phi).2 then p_fl (s_5 n f c lv a phi).1.2 (nI (s_4 n f c lv a phi).1) else (s_5 n f c lv a phi).1.2
end SS
theorem nu_bd {n : Nat} {f : Nat → Int32} {most : Int32} {s : Nat × Int32} : s.1 ≤ (p_nu n f most s).1.1 ∧ (p_nu n f most s).1.1 ≤ s.1 + 6 := by
  obtain ⟨a, phi⟩ := s
  exact dg_bd 6 a 0
theorem bl_bd {n : Nat} {f : Nat → Int32} {s : Nat × Int32} : s.1 ≤ (p_bl n f s).1 ∧ (p_bl n f s).1 ≤ s.1 + 1 := by
  obtain ⟨a, phi⟩ := s
  by_cases h : p_lk n f a = 32
  · rw [show p_bl n f (a, phi) = (a + 1, phi) from if_pos h]
    exact ⟨Nat.le_succ _, Nat.le_refl _⟩
  · rw [show p_bl n f (a, phi) = (a, p_fl phi (nI a)) from if_neg h]
    exact ⟨Nat.le_refl _, Nat.le_succ _⟩
theorem s_bd {n : Nat} {f : Nat → Int32} {c : Nat} {lv : Int64} {a : Nat} {phi : Int32} : (a + 1 ≤ (s_1 n f a phi).1.1 ∧ (s_1 n f a phi).1.1 ≤ a + 7) ∧ ((s_1 n f a phi).1.1 ≤ (s_2 n f a phi).1 ∧ (s_2 n f a phi).1 ≤ a + 8) ∧ ((s_2 n f a phi).1 ≤ (s_3 n f a phi).1.1 ∧ (s_3 n f a phi).1.1 ≤ a + 14) ∧ ((s_3 n f a phi).1.1 ≤ (s_4 n f c lv a phi).1 ∧ (s_4 n f c lv a phi).1 ≤ a + 15) ∧ (s_4 n f c lv a phi).1 ≤ (s_5 n f c lv a phi).1.1 ∧ (s_5 n f c lv a phi).1.1 ≤ a + 21 := by
  have h1 : a + 1 ≤ (s_1 n f a phi).1.1 ∧ (s_1 n f a phi).1.1 ≤ a + 1 + 6 := nu_bd (s := (a + 1, phi))
  have h2 : (s_1 n f a phi).1.1 ≤ (s_2 n f a phi).1 ∧ (s_2 n f a phi).1 ≤ (s_1 n f a phi).1.1 + 1 := bl_bd
  have h3 : (s_2 n f a phi).1 ≤ (s_3 n f a phi).1.1 ∧ (s_3 n f a phi).1.1 ≤ (s_2 n f a phi).1 + 6 := nu_bd
  have h4 : (s_3 n f a phi).1.1 ≤ (s_4 n f c lv a phi).1 ∧ (s_4 n f c lv a phi).1 ≤ (s_3 n f a phi).1.1 + 1 := bl_bd (s := ((s_3 n f a phi).1.1, s_3f n f c lv a phi))
  have h5 : (s_4 n f c lv a phi).1 ≤ (s_5 n f c lv a phi).1.1 ∧ (s_5 n f c lv a phi).1.1 ≤ (s_4 n f c lv a phi).1 + 6 := nu_bd
  omega
abbrev mrd_S : Type := (Nat × Int32) × (Nat → Nat → Int32) × (Nat → Nat → Int64)
def mrd_t (n : Nat) (l c : Nat) (a : Nat) (phi : Int32) (Ai : Nat → Nat → Int32) (Aj : Nat → Nat → Int64) : mrd_S := if s_5f n (Ai 28) c (Aj 6 (12 * l + c - 1)) a phi < 0 then (((s_5 n (Ai 28) c (Aj 6 (12 * l + c - 1)) a phi).1.1, s_5f n (Ai 28) c (Aj 6 (12 * l + c - 1)) a phi), mo_as Ai l c (s_1 n (Ai 28) a phi).2, mo_aj Aj l c (s_3 n (Ai 28) a phi).2.toInt64 (s_5 n (Ai 28) c (Aj 6 (12 * l + c - 1)) a phi).2.toInt64) else (((s_5 n (Ai 28) c (Aj 6 (12 * l + c - 1)) a phi).1.1, s_5f n (Ai 28) c (Aj 6 (12 * l + c - 1)) a phi), Ai, Aj)
def mrd_s (n : Nat) (ln : Option Nat) (c : Nat) (a : Nat) (phi : Int32) (Ai : Nat → Nat → Int32) (Aj : Nat → Nat → Int64) : mrd_S := match ln with
  | none => ((a + 1, p_fl phi (nI a)), Ai, Aj)
  | some l => if c = 12 then ((a + 1, p_fl phi (nI a)), Ai, Aj) else mrd_t n l c a phi Ai Aj
def ln_i : Option Nat → Int32
  | none => -1
  | some l => nI l
set_option maxRecDepth 20000 in
theorem bX10_readStop_0 {X : pz_C} (hX : pz_X X cX10_readStop 8 RX10) : ∀ lv st g c s, (zo_al 1 0 (zo_get 12 35 (zo_is 1 2 (zo_al 1 0 (zo_dup (zo_get 12 35 (zo_ic 1 (1) (zo_iadd (zo_puti 12 35 (zo_il 1 1 (zo_if_lt 30 (pz_Z X 8)))))))))))) 0 lv st g c s → pz_Z X 8 0 lv st g c s := (zs_aload_n hX dX10_readStop_0 rfl (zs_get hX (C := RX10) (T := TX10) (N := 37) rfl in_X10 (by decide) mw_792624ad dX10_readStop_1 (zs_istore_n hX dX10_readStop_4 rfl (by decide) (zs_aload_n hX dX10_readStop_5 rfl (zs_dup hX dX10_readStop_6 (zs_get hX (C := RX10) (T := TX10) (N := 37) rfl in_X10 (by decide) mw_792624ad dX10_readStop_7 (zs_iconst hX dX10_readStop_10 (by decide) (zs_iadd hX dX10_readStop_11 (zs_puti hX (C := RX10) (T := TX10) (N := 37) rfl in_X10 (by decide) mw_792624ad tyX10 tyX10_ok nmX10 (by decide +kernel) rfl dX10_readStop_12 (zs_iload_n hX dX10_readStop_15 rfl (zs_if_lt hX dX10_readStop_16 (by decide) (fun _ _ _ _ _ _ h => h))))))))))))
set_option maxRecDepth 20000 in
theorem bX10_readStop_19 {X : pz_C} (hX : pz_X X cX10_readStop 8 RX10) : ∀ lv st g c s, (zo_al 1 0 (zo_get 12 3 (zo_il 1 1 (zo_iald (zo_ic 2 (12) (zo_ic_ne 36 (pz_Z X 8))))))) 19 lv st g c s → pz_Z X 8 19 lv st g c s := (zs_aload_n hX dX10_readStop_19 rfl (zs_get hX (C := RX10) (T := TX10) (N := 37) rfl in_X10 (by decide) mw_6c7416b9 dX10_readStop_20 (zs_iload_n hX dX10_readStop_23 rfl (zs_iald hX dX10_readStop_24 (zs_bipush hX dX10_readStop_25 (by decide) (zs_ic_ne hX dX10_readStop_27 (by decide) (fun _ _ _ _ _ _ h => h)))))))
set_option maxRecDepth 20000 in
theorem bX10_readStop_30 {X : pz_C} (hX : pz_X X cX10_readStop 8 RX10) : ∀ lv st g c s, (zo_al 1 0 (zo_il 1 2 (pz_Z X 8))) 30 lv st g c s → pz_Z X 8 30 lv st g c s := (zs_aload_n hX dX10_readStop_30 rfl (zs_iload_n hX dX10_readStop_31 rfl (fun _ _ _ _ _ h => h)))
set_option maxRecDepth 20000 in
theorem bX10_readStop_32 {X : pz_C} {G : pz_Gx} {rm : Room} {E : Option pz_V → pz_H → Prop} (hX : pz_X X cX10_readStop 8 RX10) (hR : pz_Rt X cX10_readStop 8 none rm E) (hrm : pz_rm X = rm) (hGX : pz_GX X G) (hOk : pz_OK G) (gh : gt_X10_fail) (hr_X10_fail : rm_X10_fail.frames + 1 ≤ rm.frames ∧ 8 + (2 + 11) + rm_X10_fail.locals ≤ rm.locals) : ∀ lv st g c s, (zo_cV rm 12 1 3 rm_X10_fail.cells rm_X10_fail.slots (pr_X10_fail gh) (po_X10_fail gh) (zo_kv (zo_rv rm E))) 32 lv st g c s → pz_Z X 8 32 lv st g c s := by
  subst hrm
  exact (zs_csV hX hGX (C := RX10) (T := TX10) (N := 37) rfl (ct_X10_fail hOk gh) mw_90a73359 mw_b39d85ff mw_835bf90e mw_33939a39 mw_b0fcd068 (by decide +kernel) hr_X10_fail dX10_readStop_32 (zs_kv (zs_rv hR dX10_readStop_35)))
set_option maxRecDepth 20000 in
theorem bX10_readStop_36 {X : pz_C} (hX : pz_X X cX10_readStop 8 RX10) : ∀ lv st g c s, (zo_al 1 0 (zo_ic 2 (99) (pz_Z X 8))) 36 lv st g c s → pz_Z X 8 36 lv st g c s := (zs_aload_n hX dX10_readStop_36 rfl (zs_bipush hX dX10_readStop_37 (by decide) (fun _ _ _ _ _ h => h)))
set_option maxRecDepth 20000 in
theorem bX10_readStop_39 {X : pz_C} {G : pz_Gx} {rm : Room} (hX : pz_X X cX10_readStop 8 RX10) (hrm : pz_rm X = rm) (hGX : pz_GX X G) (hOk : pz_OK G) (gh : gt_X10_number) (hr_X10_number : rm_X10_number.frames + 1 ≤ rm.frames ∧ 8 + (4 + 11) + rm_X10_number.locals ≤ rm.locals) : ∀ lv st g c s, (zo_cV rm 12 1 3 rm_X10_number.cells rm_X10_number.slots (pr_X10_number gh) (po_X10_number gh) (zo_ki (zo_is 1 3 (zo_al 1 0 (pz_Z X 8))))) 39 lv st g c s → pz_Z X 8 39 lv st g c s := by
  subst hrm
  exact (zs_csV hX hGX (C := RX10) (T := TX10) (N := 37) rfl (ct_X10_number hOk gh) mw_45279ebd mw_a2815e7c mw_d9a567a8 mw_33939a39 mw_dcfc2031 (by decide +kernel) hr_X10_number dX10_readStop_39 (zs_ki (zs_istore_n hX dX10_readStop_42 rfl (by decide) (zs_aload_n hX dX10_readStop_43 rfl (fun _ _ _ _ _ h => h)))))
set_option maxRecDepth 20000 in
theorem bX10_readStop_44 {X : pz_C} {G : pz_Gx} {rm : Room} (hX : pz_X X cX10_readStop 8 RX10) (hrm : pz_rm X = rm) (hGX : pz_GX X G) (hOk : pz_OK G) (gh : gt_X10_blank) (hr_X10_blank : rm_X10_blank.frames + 1 ≤ rm.frames ∧ 8 + (1 + 11) + rm_X10_blank.locals ≤ rm.locals) : ∀ lv st g c s, (zo_cV rm 12 0 3 rm_X10_blank.cells rm_X10_blank.slots (pr_X10_blank gh) (po_X10_blank gh) (zo_kv (zo_al 1 0 (zo_get 12 35 (zo_is 2 4 (zo_al 1 0 (zo_ic 2 (259200) (pz_Z X 8)))))))) 44 lv st g c s → pz_Z X 8 44 lv st g c s := by
  subst hrm
  exact (zs_csV hX hGX (C := RX10) (T := TX10) (N := 37) rfl (ct_X10_blank hOk gh) mw_f4b43ab0 mw_f1219b6b mw_68bc6fd1 mw_33939a39 mw_9e9c7049 (by decide +kernel) hr_X10_blank dX10_readStop_44 (zs_kv (zs_aload_n hX dX10_readStop_47 rfl (zs_get hX (C := RX10) (T := TX10) (N := 37) rfl in_X10 (by decide) mw_792624ad dX10_readStop_48 (zs_istore hX dX10_readStop_51 (by decide) (zs_aload_n hX dX10_readStop_53 rfl (zs_ldc hX dX10_readStop_54 mw_54420761 (fun _ _ _ _ _ h => h))))))))
set_option maxRecDepth 20000 in
theorem bX10_readStop_56 {X : pz_C} {G : pz_Gx} {rm : Room} (hX : pz_X X cX10_readStop 8 RX10) (hrm : pz_rm X = rm) (hGX : pz_GX X G) (hOk : pz_OK G) (gh : gt_X10_number) (hr_X10_number : rm_X10_number.frames + 1 ≤ rm.frames ∧ 8 + (4 + 11) + rm_X10_number.locals ≤ rm.locals) : ∀ lv st g c s, (zo_cV rm 12 1 3 rm_X10_number.cells rm_X10_number.slots (pr_X10_number gh) (po_X10_number gh) (zo_ki (zo_is 2 5 (zo_al 1 0 (zo_get 12 3 (zo_il 1 1 (zo_iald (zo_if_le 101 (pz_Z X 8))))))))) 56 lv st g c s → pz_Z X 8 56 lv st g c s := by
  subst hrm
  exact (zs_csV hX hGX (C := RX10) (T := TX10) (N := 37) rfl (ct_X10_number hOk gh) mw_45279ebd mw_a2815e7c mw_d9a567a8 mw_33939a39 mw_dcfc2031 (by decide +kernel) hr_X10_number dX10_readStop_56 (zs_ki (zs_istore hX dX10_readStop_59 (by decide) (zs_aload_n hX dX10_readStop_61 rfl (zs_get hX (C := RX10) (T := TX10) (N := 37) rfl in_X10 (by decide) mw_6c7416b9 dX10_readStop_62 (zs_iload_n hX dX10_readStop_65 rfl (zs_iald hX dX10_readStop_66 (zs_if_le hX dX10_readStop_67 (by decide) (fun _ _ _ _ _ _ h => h)))))))))
set_option maxRecDepth 20000 in
theorem bX10_readStop_70 {X : pz_C} (hX : pz_X X cX10_readStop 8 RX10) : ∀ lv st g c s, (zo_il 2 5 (zo_i2l (zo_al 1 0 (zo_get 12 6 (zo_ic 2 (12) (zo_il 1 1 (zo_imul (zo_al 1 0 (zo_get 12 3 (zo_il 1 1 (zo_iald (zo_iadd (zo_ic 1 (1) (zo_isub (zo_lald (zo_lcmp (zo_if_ge 101 (pz_Z X 8)))))))))))))))))) 70 lv st g c s → pz_Z X 8 70 lv st g c s := (zs_iload hX dX10_readStop_70 (zs_i2l hX dX10_readStop_72 (zs_aload_n hX dX10_readStop_73 rfl (zs_get hX (C := RX10) (T := TX10) (N := 37) rfl in_X10 (by decide) mw_7b8e4d38 dX10_readStop_74 (zs_bipush hX dX10_readStop_77 (by decide) (zs_iload_n hX dX10_readStop_79 rfl (zs_imul hX dX10_readStop_80 (zs_aload_n hX dX10_readStop_81 rfl (zs_get hX (C := RX10) (T := TX10) (N := 37) rfl in_X10 (by decide) mw_6c7416b9 dX10_readStop_82 (zs_iload_n hX dX10_readStop_85 rfl (zs_iald hX dX10_readStop_86 (zs_iadd hX dX10_readStop_87 (zs_iconst hX dX10_readStop_88 (by decide) (zs_isub hX dX10_readStop_89 (zs_lald hX dX10_readStop_90 (zs_lcmp hX dX10_readStop_91 (zs_if_ge hX dX10_readStop_92 (by decide) (fun _ _ _ _ _ _ h => h))))))))))))))))))
set_option maxRecDepth 20000 in
theorem bX10_readStop_95 {X : pz_C} (hX : pz_X X cX10_readStop 8 RX10) : ∀ lv st g c s, (zo_al 1 0 (zo_il 2 4 (pz_Z X 8))) 95 lv st g c s → pz_Z X 8 95 lv st g c s := (zs_aload_n hX dX10_readStop_95 rfl (zs_iload hX dX10_readStop_96 (fun _ _ _ _ _ h => h)))
set_option maxRecDepth 20000 in
theorem bX10_readStop_98 {X : pz_C} {G : pz_Gx} {rm : Room} (hX : pz_X X cX10_readStop 8 RX10) (hrm : pz_rm X = rm) (hGX : pz_GX X G) (hOk : pz_OK G) (gh : gt_X10_fail) (hr_X10_fail : rm_X10_fail.frames + 1 ≤ rm.frames ∧ 8 + (2 + 11) + rm_X10_fail.locals ≤ rm.locals) : ∀ lv st g c s, (zo_cV rm 12 1 3 rm_X10_fail.cells rm_X10_fail.slots (pr_X10_fail gh) (po_X10_fail gh) (zo_kv (pz_Z X 8))) 98 lv st g c s → pz_Z X 8 98 lv st g c s := by
  subst hrm
  exact (zs_csV hX hGX (C := RX10) (T := TX10) (N := 37) rfl (ct_X10_fail hOk gh) mw_90a73359 mw_b39d85ff mw_835bf90e mw_33939a39 mw_b0fcd068 (by decide +kernel) hr_X10_fail dX10_readStop_98 (zs_kv (fun _ _ _ _ _ h => h)))
set_option maxRecDepth 20000 in
theorem bX10_readStop_101 {X : pz_C} (hX : pz_X X cX10_readStop 8 RX10) : ∀ lv st g c s, (zo_al 1 0 (pz_Z X 8)) 101 lv st g c s → pz_Z X 8 101 lv st g c s := (zs_aload_n hX dX10_readStop_101 rfl (fun _ _ _ _ _ h => h))
set_option maxRecDepth 20000 in
theorem bX10_readStop_102 {X : pz_C} {G : pz_Gx} {rm : Room} (hX : pz_X X cX10_readStop 8 RX10) (hrm : pz_rm X = rm) (hGX : pz_GX X G) (hOk : pz_OK G) (gh : gt_X10_blank) (hr_X10_blank : rm_X10_blank.frames + 1 ≤ rm.frames ∧ 8 + (1 + 11) + rm_X10_blank.locals ≤ rm.locals) : ∀ lv st g c s, (zo_cV rm 12 0 3 rm_X10_blank.cells rm_X10_blank.slots (pr_X10_blank gh) (po_X10_blank gh) (zo_kv (zo_al 1 0 (zo_get 12 35 (zo_is 2 6 (zo_al 1 0 (zo_ic 2 (259200) (pz_Z X 8)))))))) 102 lv st g c s → pz_Z X 8 102 lv st g c s := by
  subst hrm
  exact (zs_csV hX hGX (C := RX10) (T := TX10) (N := 37) rfl (ct_X10_blank hOk gh) mw_f4b43ab0 mw_f1219b6b mw_68bc6fd1 mw_33939a39 mw_9e9c7049 (by decide +kernel) hr_X10_blank dX10_readStop_102 (zs_kv (zs_aload_n hX dX10_readStop_105 rfl (zs_get hX (C := RX10) (T := TX10) (N := 37) rfl in_X10 (by decide) mw_792624ad dX10_readStop_106 (zs_istore hX dX10_readStop_109 (by decide) (zs_aload_n hX dX10_readStop_111 rfl (zs_ldc hX dX10_readStop_112 mw_54420761 (fun _ _ _ _ _ h => h))))))))
set_option maxRecDepth 20000 in
theorem bX10_readStop_114 {X : pz_C} {G : pz_Gx} {rm : Room} (hX : pz_X X cX10_readStop 8 RX10) (hrm : pz_rm X = rm) (hGX : pz_GX X G) (hOk : pz_OK G) (gh : gt_X10_number) (hr_X10_number : rm_X10_number.frames + 1 ≤ rm.frames ∧ 8 + (4 + 11) + rm_X10_number.locals ≤ rm.locals) : ∀ lv st g c s, (zo_cV rm 12 1 3 rm_X10_number.cells rm_X10_number.slots (pr_X10_number gh) (po_X10_number gh) (zo_ki (zo_is 2 7 (zo_il 2 7 (zo_il 2 5 (zo_ic_ge 132 (pz_Z X 8))))))) 114 lv st g c s → pz_Z X 8 114 lv st g c s := by
  subst hrm
  exact (zs_csV hX hGX (C := RX10) (T := TX10) (N := 37) rfl (ct_X10_number hOk gh) mw_45279ebd mw_a2815e7c mw_d9a567a8 mw_33939a39 mw_dcfc2031 (by decide +kernel) hr_X10_number dX10_readStop_114 (zs_ki (zs_istore hX dX10_readStop_117 (by decide) (zs_iload hX dX10_readStop_119 (zs_iload hX dX10_readStop_121 (zs_ic_ge hX dX10_readStop_123 (by decide) (fun _ _ _ _ _ _ h => h)))))))
set_option maxRecDepth 20000 in
theorem bX10_readStop_126 {X : pz_C} (hX : pz_X X cX10_readStop 8 RX10) : ∀ lv st g c s, (zo_al 1 0 (zo_il 2 6 (pz_Z X 8))) 126 lv st g c s → pz_Z X 8 126 lv st g c s := (zs_aload_n hX dX10_readStop_126 rfl (zs_iload hX dX10_readStop_127 (fun _ _ _ _ _ h => h)))
set_option maxRecDepth 20000 in
theorem bX10_readStop_129 {X : pz_C} {G : pz_Gx} {rm : Room} (hX : pz_X X cX10_readStop 8 RX10) (hrm : pz_rm X = rm) (hGX : pz_GX X G) (hOk : pz_OK G) (gh : gt_X10_fail) (hr_X10_fail : rm_X10_fail.frames + 1 ≤ rm.frames ∧ 8 + (2 + 11) + rm_X10_fail.locals ≤ rm.locals) : ∀ lv st g c s, (zo_cV rm 12 1 3 rm_X10_fail.cells rm_X10_fail.slots (pr_X10_fail gh) (po_X10_fail gh) (zo_kv (pz_Z X 8))) 129 lv st g c s → pz_Z X 8 129 lv st g c s := by
  subst hrm
  exact (zs_csV hX hGX (C := RX10) (T := TX10) (N := 37) rfl (ct_X10_fail hOk gh) mw_90a73359 mw_b39d85ff mw_835bf90e mw_33939a39 mw_b0fcd068 (by decide +kernel) hr_X10_fail dX10_readStop_129 (zs_kv (fun _ _ _ _ _ h => h)))
set_option maxRecDepth 20000 in
theorem bX10_readStop_132 {X : pz_C} (hX : pz_X X cX10_readStop 8 RX10) : ∀ lv st g c s, (zo_al 1 0 (zo_get 12 36 (zo_if_ge 151 (pz_Z X 8)))) 132 lv st g c s → pz_Z X 8 132 lv st g c s := (zs_aload_n hX dX10_readStop_132 rfl (zs_get hX (C := RX10) (T := TX10) (N := 37) rfl in_X10 (by decide) mw_198aa72f dX10_readStop_133 (zs_if_ge hX dX10_readStop_136 (by decide) (fun _ _ _ _ _ _ h => h))))
set_option maxRecDepth 20000 in
theorem bX10_readStop_139 {X : pz_C} (hX : pz_X X cX10_readStop 8 RX10) : ∀ lv st g c s, (zo_al 1 0 (zo_il 1 1 (zo_il 1 3 (zo_il 2 5 (zo_i2l (zo_il 2 7 (zo_i2l (pz_Z X 8)))))))) 139 lv st g c s → pz_Z X 8 139 lv st g c s := (zs_aload_n hX dX10_readStop_139 rfl (zs_iload_n hX dX10_readStop_140 rfl (zs_iload_n hX dX10_readStop_141 rfl (zs_iload hX dX10_readStop_142 (zs_i2l hX dX10_readStop_144 (zs_iload hX dX10_readStop_145 (zs_i2l hX dX10_readStop_147 (fun _ _ _ _ _ h => h))))))))
set_option maxRecDepth 20000 in
theorem bX10_readStop_148 {X : pz_C} {G : pz_Gx} {rm : Room} (hX : pz_X X cX10_readStop 8 RX10) (hrm : pz_rm X = rm) (hGX : pz_GX X G) (hOk : pz_OK G) (gh : gt_X10_addStop) (hr_X10_addStop : rm_X10_addStop.frames + 1 ≤ rm.frames ∧ 8 + (8 + 11) + rm_X10_addStop.locals ≤ rm.locals) : ∀ lv st g c s, (zo_cV rm 12 4 3 rm_X10_addStop.cells rm_X10_addStop.slots (pr_X10_addStop gh) (po_X10_addStop gh) (zo_kv (pz_Z X 8))) 148 lv st g c s → pz_Z X 8 148 lv st g c s := by
  subst hrm
  exact (zs_csV hX hGX (C := RX10) (T := TX10) (N := 37) rfl (ct_X10_addStop hOk gh) mw_545736fd mw_da35c34f mw_f9e1ba14 mw_33939a39 mw_c0e3c33a (by decide +kernel) hr_X10_addStop dX10_readStop_148 (zs_kv (fun _ _ _ _ _ h => h)))
set_option maxRecDepth 20000 in
theorem bX10_readStop_151 {X : pz_C} {rm : Room} {E : Option pz_V → pz_H → Prop} (hX : pz_X X cX10_readStop 8 RX10) (hR : pz_Rt X cX10_readStop 8 none rm E) : ∀ lv st g c s, (zo_rv rm E) 151 lv st g c s → pz_Z X 8 151 lv st g c s := (zs_rv hR dX10_readStop_151)
def rm_X10_readStop : Room := { frames := 2, cells := 0, slots := 0, locals := 44 }
abbrev gt_X10_readStop : Type := ((Nat × Nat × Int32) × Option Nat × Nat) × mo_T
def pr_X10_readStop : gt_X10_readStop → List pz_V → pz_H → Prop := fun (((n, a, phi), ln, c), (mo, M, I, Ai, Aj)) av g => av = [.inr (.inr (some (mo))), .inl (ln_i ln)] ∧ a ≤ 500 ∧ I 27 = nI n ∧ n ≤ 500 ∧ (∀ l, ln = some l → l < 40 ∧ Ai 3 l = nI c ∧ c ≤ 12) ∧ moS g mo M (iaf I a phi) Ai Aj
def po_X10_readStop : gt_X10_readStop → List pz_V → pz_H → Option pz_V → pz_H → Prop := fun (((n, a, phi), ln, c), (mo, M, I, Ai, Aj)) _ g v g' => v = none ∧ hg moL g g' ∧ moS g' mo M (iaf I (mrd_s n ln c a phi Ai Aj).1.1 (mrd_s n ln c a phi Ai Aj).1.2) (mrd_s n ln c a phi Ai Aj).2.1 (mrd_s n ln c a phi Ai Aj).2.2
set_option maxRecDepth 20000 in
set_option maxHeartbeats 8000000 in
theorem ct_X10_readStop {G : pz_Gx} (hOk : pz_OK G) (gh : gt_X10_readStop) : pz_M G yX10_readStop cX10_readStop 8 none rm_X10_readStop (pr_X10_readStop gh) (po_X10_readStop gh) := by
  obtain ⟨⟨⟨n, a, phi⟩, ln, c⟩, mo, M, I, Ai, Aj⟩ := gh
  refine pz_ofZ (by decide) hOk.1 (Or.inl rfl) ?_ ?_
  · rintro av g ⟨rfl, -⟩
    exact Nat.le_of_ble_eq_true rfl
  · rintro X hX hGX hrm - av g ⟨rfl, ha, hn, hn5, hln, hm⟩ hR
    obtain ⟨hm1, hS1⟩ := mo_f hm 35 (by decide) (nI (a + 1))
    rw [iaf_s35] at hm1
    -- no line, or a full one
    have no : mrd_s n ln c a phi Ai Aj = ((a + 1, p_fl phi (nI a)), Ai, Aj) → ∀ (g1 : pz_H) (lv : pz_L), hg moL g g1 → moS g1 mo M (iaf I (a + 1) phi) Ai Aj → pz_all lv [(2, .inl (nI a)), (0, .inr (.inr (some (mo))))] → pz_Z X 8 30 lv [] g1 0 0 := by
      intro h g1 lv hS hm1 hlv
      refine pz_lsub hlv ?_
      refine bX10_readStop_30 hX _ _ _ _ _ ?_
      refine bX10_readStop_32 hX hR hrm hGX hOk (nI a, (mo, M, iaf I (a + 1) phi, Ai, Aj)) (by decide) _ _ _ _ _ ⟨Nat.le_of_ble_eq_true rfl, ⟨mo, [.inl (nI a)], [100], _, rfl, hm1.1⟩, Nat.le_of_ble_eq_true rfl, Nat.le_of_ble_eq_true rfl, Nat.le_of_ble_eq_true rfl, ⟨rfl, hm1⟩, ?_⟩
      rintro v g2 ⟨rfl, hS2, hm2⟩ -
      rw [iaf_36, iaf_s36] at hm2
      refine ⟨Nat.le_refl _, Nat.le_refl _, rfl, hg_tr hS hS2, ?_⟩
      rw [h]
      exact hm2
    refine bX10_readStop_0 hX _ _ _ _ _ ⟨_, _, _, hm.1, rfl, rfl, _, _, _, hm.1, rfl, _, _, hm.1, Nat.le_of_ble_eq_true rfl, ?_⟩
    rw [iaf_35, nI_1]
    generalize va_up g mo _ = g1 at hm1 hS1 ⊢
    cases ln with
    | none =>
      refine ⟨fun _ => ?_, fun q => absurd (show ((-1 : Int32) < 0) by decide) q⟩
      exact no rfl g1 _ hS1 hm1 ⟨rfl, rfl, trivial⟩
    | some l =>
      obtain ⟨hl, hc3, hc12⟩ := hln l rfl
      have hlc : (nI l).toNatClampNeg = l := ni_cl (by omega)
      have hli : vp_in (nI l) 40 := ni_in (by omega) (by omega)
      have bd := s_bd (n := n) (f := Ai 28) (c := c) (lv := Aj 6 (12 * l + c - 1)) (a := a) (phi := phi)
      have m3 : ∀ {g' : pz_H} {J : Nat → Int32}, moS g' mo M J Ai Aj → g' (M 3) = some ([101, 3], ar_i 40 (Ai 3)) := fun h => h.2.1 3 (by decide)
      refine ⟨fun q => absurd q (nI_pos (by omega)), fun _ => ?_⟩
      refine bX10_readStop_19 hX _ _ _ _ _ ⟨_, _, _, hm1.1, rfl, _, _, _, m3 hm1, hli, ?_⟩
      rw [show (ln_i (some l)).toNatClampNeg = l from hlc, hc3]
      refine ⟨fun q => ?_, fun q => ?_⟩
      · have hc : c ≠ 12 := fun e => q (by rw [e]; rfl)
        have hrd : mrd_s n (some l) c a phi Ai Aj = mrd_t n l c a phi Ai Aj := if_neg hc
        refine pz_lsub (lv' := [(0, .inr (.inr (some (mo)))), (1, .inl (nI l))]) ⟨rfl, rfl, trivial⟩ ?_
        refine bX10_readStop_36 hX _ _ _ _ _ ?_
        refine bX10_readStop_39 hX hrm hGX hOk ((99, n, a + 1, phi), (mo, M, I, Ai, Aj)) (by decide) _ _ _ _ _ ⟨Nat.le_of_ble_eq_true rfl, ⟨mo, [.inl 99], [100], _, rfl, hm1.1⟩, Nat.le_of_ble_eq_true rfl, Nat.le_of_ble_eq_true rfl, Nat.le_of_ble_eq_true rfl, ⟨rfl, by omega, hn, hn5, hm1⟩, ?_⟩
        rintro v g2 ⟨rfl, hS2, hm2⟩ z hz
        cases hz
        replace hm2 : moS g2 mo M (iaf I (s_1 n (Ai 28) a phi).1.1 (s_1 n (Ai 28) a phi).1.2) Ai Aj := hm2
        show zo_is 1 3 _ _ _ [.inl ((s_1 n (Ai 28) a phi).2)] _ _ _
        refine bX10_readStop_44 hX hrm hGX hOk ((n, (s_1 n (Ai 28) a phi).1.1, (s_1 n (Ai 28) a phi).1.2), (mo, M, I, Ai, Aj)) (by decide) _ _ _ _ _ ⟨Nat.le_of_ble_eq_true rfl, ⟨mo, [], [100], _, rfl, hm2.1⟩, Nat.le_of_ble_eq_true rfl, Nat.le_of_ble_eq_true rfl, Nat.le_of_ble_eq_true rfl, ⟨rfl, by omega, hn, hn5, hm2⟩, ?_⟩
        rintro v g3 ⟨rfl, hS3, hm3⟩ -
        replace hm3 : moS g3 mo M (iaf I (s_2 n (Ai 28) a phi).1 (s_2 n (Ai 28) a phi).2) Ai Aj := hm3
        refine ⟨_, _, _, hm3.1, rfl, ?_⟩
        rw [iaf_35]
        refine bX10_readStop_56 hX hrm hGX hOk ((259200, n, (s_2 n (Ai 28) a phi).1, (s_2 n (Ai 28) a phi).2), (mo, M, I, Ai, Aj)) (by decide) _ _ _ _ _ ⟨Nat.le_of_ble_eq_true rfl, ⟨mo, [.inl 259200], [100], _, rfl, hm3.1⟩, Nat.le_of_ble_eq_true rfl, Nat.le_of_ble_eq_true rfl, Nat.le_of_ble_eq_true rfl, ⟨rfl, by omega, hn, hn5, hm3⟩, ?_⟩
        rintro v g4 ⟨rfl, hS4, hm4⟩ z hz
        cases hz
        replace hm4 : moS g4 mo M (iaf I (s_3 n (Ai 28) a phi).1.1 (s_3 n (Ai 28) a phi).1.2) Ai Aj := hm4
        show zo_is 2 5 _ _ _ [.inl ((s_3 n (Ai 28) a phi).2)] _ _ _
        refine ⟨_, _, _, hm4.1, rfl, _, _, _, m3 hm4, hli, ?_⟩
        rw [hlc, hc3]
        have hS14 := hg_tr hS1 (hg_tr hS2 (hg_tr hS3 hS4))
        -- the end
        have fin : ∀ (g7 : pz_H) (lv : pz_L), hg moL g g7 → moS g7 mo M (iaf I (s_5 n (Ai 28) c (Aj 6 (12 * l + c - 1)) a phi).1.1 (s_5f n (Ai 28) c (Aj 6 (12 * l + c - 1)) a phi)) Ai Aj → pz_all lv [(7, .inl ((s_5 n (Ai 28) c (Aj 6 (12 * l + c - 1)) a phi).2)), (5, .inl ((s_3 n (Ai 28) a phi).2)), (3, .inl ((s_1 n (Ai 28) a phi).2)), (0, .inr (.inr (some (mo)))), (1, .inl (nI l))] → pz_Z X 8 132 lv [] g7 0 0 := by
          intro g7 lv hS7 hm7 hlv
          refine pz_lsub hlv ?_
          refine bX10_readStop_132 hX _ _ _ _ _ ⟨_, _, _, hm7.1, rfl, ?_⟩
          rw [iaf_36]
          refine ⟨fun q2 => ?_, fun q2 => ?_⟩
          · refine bX10_readStop_151 hX hR _ _ _ _ _ ⟨Nat.le_refl _, Nat.le_refl _, rfl, hS7, ?_⟩
            rw [hrd, show mrd_t n l c a phi Ai Aj = (((s_5 n (Ai 28) c (Aj 6 (12 * l + c - 1)) a phi).1.1, s_5f n (Ai 28) c (Aj 6 (12 * l + c - 1)) a phi), Ai, Aj) from if_neg (Int32.not_lt.mpr q2)]
            exact hm7
          · refine bX10_readStop_139 hX _ _ _ _ _ ?_
            refine bX10_readStop_148 hX hrm hGX hOk ((l, (s_1 n (Ai 28) a phi).2, (s_3 n (Ai 28) a phi).2.toInt64, (s_5 n (Ai 28) c (Aj 6 (12 * l + c - 1)) a phi).2.toInt64, c), (mo, M, _, Ai, Aj)) (by decide) _ _ _ _ _ ⟨Nat.le_of_ble_eq_true rfl, ⟨mo, [.inl (nI l), .inl ((s_1 n (Ai 28) a phi).2), .inr (.inl ((s_3 n (Ai 28) a phi).2.toInt64)), .inr (.inl ((s_5 n (Ai 28) c (Aj 6 (12 * l + c - 1)) a phi).2.toInt64))], [100], _, rfl, hm7.1⟩, Nat.le_of_ble_eq_true rfl, Nat.le_of_ble_eq_true rfl, Nat.le_of_ble_eq_true rfl, ⟨rfl, hl, by omega, hc3, hm7⟩, ?_⟩
            rintro v g8 ⟨rfl, hS8, hm8⟩ -
            refine bX10_readStop_151 hX hR _ _ _ _ _ ⟨Nat.le_refl _, Nat.le_refl _, rfl, hg_tr hS7 hS8, ?_⟩
            rw [hrd, show mrd_t n l c a phi Ai Aj = (((s_5 n (Ai 28) c (Aj 6 (12 * l + c - 1)) a phi).1.1, s_5f n (Ai 28) c (Aj 6 (12 * l + c - 1)) a phi), mo_as Ai l c (s_1 n (Ai 28) a phi).2, mo_aj Aj l c (s_3 n (Ai 28) a phi).2.toInt64 (s_5 n (Ai 28) c (Aj 6 (12 * l + c - 1)) a phi).2.toInt64) from if_pos (Int32.not_le.mp q2)]
            exact hm8
        -- behind the arrival
        have at101 : ∀ (g5 : pz_H) (lv : pz_L), hg moL g g5 → moS g5 mo M (iaf I (s_3 n (Ai 28) a phi).1.1 (s_3f n (Ai 28) c (Aj 6 (12 * l + c - 1)) a phi)) Ai Aj → pz_all lv [(5, .inl ((s_3 n (Ai 28) a phi).2)), (3, .inl ((s_1 n (Ai 28) a phi).2)), (0, .inr (.inr (some (mo)))), (1, .inl (nI l))] → pz_Z X 8 101 lv [] g5 0 0 := by
          intro g5 lv hS5 hm5 hlv
          refine pz_lsub hlv ?_
          refine bX10_readStop_101 hX _ _ _ _ _ ?_
          refine bX10_readStop_102 hX hrm hGX hOk ((n, (s_3 n (Ai 28) a phi).1.1, s_3f n (Ai 28) c (Aj 6 (12 * l + c - 1)) a phi), (mo, M, I, Ai, Aj)) (by decide) _ _ _ _ _ ⟨Nat.le_of_ble_eq_true rfl, ⟨mo, [], [100], _, rfl, hm5.1⟩, Nat.le_of_ble_eq_true rfl, Nat.le_of_ble_eq_true rfl, Nat.le_of_ble_eq_true rfl, ⟨rfl, by omega, hn, hn5, hm5⟩, ?_⟩
          rintro v g6 ⟨rfl, hS6, hm6⟩ -
          replace hm6 : moS g6 mo M (iaf I (s_4 n (Ai 28) c (Aj 6 (12 * l + c - 1)) a phi).1 (s_4 n (Ai 28) c (Aj 6 (12 * l + c - 1)) a phi).2) Ai Aj := hm6
          refine ⟨_, _, _, hm6.1, rfl, ?_⟩
          rw [iaf_35]
          refine bX10_readStop_114 hX hrm hGX hOk ((259200, n, (s_4 n (Ai 28) c (Aj 6 (12 * l + c - 1)) a phi).1, (s_4 n (Ai 28) c (Aj 6 (12 * l + c - 1)) a phi).2), (mo, M, I, Ai, Aj)) (by decide) _ _ _ _ _ ⟨Nat.le_of_ble_eq_true rfl, ⟨mo, [.inl 259200], [100], _, rfl, hm6.1⟩, Nat.le_of_ble_eq_true rfl, Nat.le_of_ble_eq_true rfl, Nat.le_of_ble_eq_true rfl, ⟨rfl, by omega, hn, hn5, hm6⟩, ?_⟩
          rintro v g7 ⟨rfl, hS7, hm7⟩ z hz
          cases hz
          replace hm7 : moS g7 mo M (iaf I (s_5 n (Ai 28) c (Aj 6 (12 * l + c - 1)) a phi).1.1 (s_5 n (Ai 28) c (Aj 6 (12 * l + c - 1)) a phi).1.2) Ai Aj := hm7
          show zo_is 2 7 _ _ _ [.inl ((s_5 n (Ai 28) c (Aj 6 (12 * l + c - 1)) a phi).2)] _ _ _
          refine ⟨fun q2 => ?_, fun q2 => ?_⟩
          · refine fin g7 _ (hg_tr hS5 (hg_tr hS6 hS7)) ?_ ⟨rfl, rfl, rfl, rfl, rfl, trivial⟩
            rw [show s_5f n (Ai 28) c (Aj 6 (12 * l + c - 1)) a phi = (s_5 n (Ai 28) c (Aj 6 (12 * l + c - 1)) a phi).1.2 from if_neg (Int32.not_lt.mpr q2)]
            exact hm7
          · refine bX10_readStop_126 hX _ _ _ _ _ ?_
            refine bX10_readStop_129 hX hrm hGX hOk (nI (s_4 n (Ai 28) c (Aj 6 (12 * l + c - 1)) a phi).1, (mo, M, _, Ai, Aj)) (by decide) _ _ _ _ _ ⟨Nat.le_of_ble_eq_true rfl, ⟨mo, [.inl (nI (s_4 n (Ai 28) c (Aj 6 (12 * l + c - 1)) a phi).1)], [100], _, rfl, hm7.1⟩, Nat.le_of_ble_eq_true rfl, Nat.le_of_ble_eq_true rfl, Nat.le_of_ble_eq_true rfl, ⟨rfl, hm7⟩, ?_⟩
            rintro v g8 ⟨rfl, hS8, hm8⟩ -
            rw [iaf_36, iaf_s36] at hm8
            refine fin g8 _ (hg_tr hS5 (hg_tr hS6 (hg_tr hS7 hS8))) ?_ ⟨rfl, rfl, rfl, rfl, rfl, trivial⟩
            rw [show s_5f n (Ai 28) c (Aj 6 (12 * l + c - 1)) a phi = p_fl (s_5 n (Ai 28) c (Aj 6 (12 * l + c - 1)) a phi).1.2 (nI (s_4 n (Ai 28) c (Aj 6 (12 * l + c - 1)) a phi).1) from if_pos (Int32.not_le.mp q2)]
            exact hm8
        refine ⟨fun q2 => ?_, fun q2 => ?_⟩
        · have hc0 : c ≤ 0 := (ni_le (b := 0) (by omega) (by omega)).mp q2
          refine at101 g4 _ hS14 ?_ ⟨rfl, rfl, rfl, rfl, trivial⟩
          rw [show s_3f n (Ai 28) c (Aj 6 (12 * l + c - 1)) a phi = (s_3 n (Ai 28) a phi).1.2 from if_neg (fun z => by omega)]
          exact hm4
        · have hc0 : 0 < c := Nat.lt_of_not_le (fun z => q2 ((ni_le (b := 0) (by omega) (by omega)).mpr z))
          have eix : (12 : Int32) * nI l + nI c - 1 = nI (12 * l + c - 1) := by rw [ix_12, ni_pred (by omega)]
          have m6 : g4 (M 6) = some ([101, 6], ar_j 480 (Aj 6)) := hm4.2.2.2 6 (by decide)
          refine bX10_readStop_70 hX _ _ _ _ _ ⟨_, _, _, hm4.1, rfl, _, _, _, hm4.1, rfl, _, _, _, m3 hm4, hli, ?_⟩
          rw [hlc, hc3]
          refine ⟨_, _, _, m6, by rw [eix]; exact ni_in (by omega) (by omega), ?_⟩
          rw [eix, ni_cl (by omega)]
          refine ⟨fun q3 => ?_, fun q3 => ?_⟩
          · refine at101 g4 _ hS14 ?_ ⟨rfl, rfl, rfl, rfl, trivial⟩
            rw [show s_3f n (Ai 28) c (Aj 6 (12 * l + c - 1)) a phi = (s_3 n (Ai 28) a phi).1.2 from if_neg (fun z => absurd z.2 (Int64.not_lt.mpr ((lc_ge _ _).mp q3)))]
            exact hm4
          · refine bX10_readStop_95 hX _ _ _ _ _ ?_
            refine bX10_readStop_98 hX hrm hGX hOk (nI (s_2 n (Ai 28) a phi).1, (mo, M, _, Ai, Aj)) (by decide) _ _ _ _ _ ⟨Nat.le_of_ble_eq_true rfl, ⟨mo, [.inl (nI (s_2 n (Ai 28) a phi).1)], [100], _, rfl, hm4.1⟩, Nat.le_of_ble_eq_true rfl, Nat.le_of_ble_eq_true rfl, Nat.le_of_ble_eq_true rfl, ⟨rfl, hm4⟩, ?_⟩
            rintro v g5 ⟨rfl, hS5, hm5⟩ -
            rw [iaf_36, iaf_s36] at hm5
            refine at101 g5 _ (hg_tr hS14 hS5) ?_ ⟨rfl, rfl, rfl, rfl, trivial⟩
            rw [show s_3f n (Ai 28) c (Aj 6 (12 * l + c - 1)) a phi = p_fl (s_3 n (Ai 28) a phi).1.2 (nI (s_2 n (Ai 28) a phi).1) from if_pos ⟨hc0, Int64.not_le.mp (fun z => q3 ((lc_ge _ _).mpr z))⟩]
            exact hm5
      · have hc : c = 12 := ni_inj (b := 12) (by omega) (by omega) q
        exact no (if_pos hc) g1 _ hS1 hm1 ⟨rfl, rfl, trivial⟩
