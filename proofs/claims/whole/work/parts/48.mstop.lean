/-! the reference: stop, change, days -/
set_option maxRecDepth 20000 in
theorem bX10_stop_0 {X : pz_C} (hX : pz_X X cX10_stop 8 RX10) : ∀ lv st g c s, (zo_al 1 0 (zo_il 1 1 (pz_Z X 8))) 0 lv st g c s → pz_Z X 8 0 lv st g c s := (zs_aload_n hX dX10_stop_0 rfl (zs_iload_n hX dX10_stop_1 rfl (fun _ _ _ _ _ h => h)))
set_option maxRecDepth 20000 in
theorem bX10_stop_2 {X : pz_C} {G : pz_Gx} {rm : Room} (hX : pz_X X cX10_stop 8 RX10) (hrm : pz_rm X = rm) (hGX : pz_GX X G) (hOk : pz_OK G) (gh : gt_X10_isLine) (hr_X10_isLine : rm_X10_isLine.frames + 1 ≤ rm.frames ∧ 8 + (2 + 11) + rm_X10_isLine.locals ≤ rm.locals) : ∀ lv st g c s, (zo_cV rm 12 1 3 rm_X10_isLine.cells rm_X10_isLine.slots (pr_X10_isLine gh) (po_X10_isLine gh) (zo_kz (zo_if_eq 15 (pz_Z X 8)))) 2 lv st g c s → pz_Z X 8 2 lv st g c s := by
  subst hrm
  exact (zs_csV hX hGX (C := RX10) (T := TX10) (N := 37) rfl (ct_X10_isLine hOk gh) mw_e8056c21 mw_6b16837e mw_6737fe84 mw_33939a39 mw_6be8286f (by decide +kernel) hr_X10_isLine dX10_stop_2 (zs_kz (zs_if_eq hX dX10_stop_5 (by decide) (fun _ _ _ _ _ _ h => h))))
set_option maxRecDepth 20000 in
theorem bX10_stop_8 {X : pz_C} (hX : pz_X X cX10_stop 8 RX10) : ∀ lv st g c s, (zo_il 1 2 (pz_Z X 8)) 8 lv st g c s → pz_Z X 8 8 lv st g c s := (zs_iload_n hX dX10_stop_8 rfl (fun _ _ _ _ _ h => h))
set_option maxRecDepth 20000 in
theorem bX10_stop_9 {X : pz_C} {G : pz_Gx} {rm : Room} (hX : pz_X X cX10_stop 8 RX10) (hrm : pz_rm X = rm) (hGX : pz_GX X G) (hOk : pz_OK G) (gh : gt_X10_isPlace) (hr_X10_isPlace : rm_X10_isPlace.frames + 1 ≤ rm.frames ∧ 8 + (1 + 11) + rm_X10_isPlace.locals ≤ rm.locals) : ∀ lv st g c s, (zo_cs rm 1 3 rm_X10_isPlace.cells rm_X10_isPlace.slots (pr_X10_isPlace gh) (po_X10_isPlace gh) (zo_kz (zo_if_ne 19 (pz_Z X 8)))) 9 lv st g c s → pz_Z X 8 9 lv st g c s := by
  subst hrm
  exact (zs_csS hX hGX (ct_X10_isPlace hOk gh) mw_57aced96 mw_2d6024eb mw_33939a39 mw_b2184c85 (by decide +kernel) hr_X10_isPlace dX10_stop_9 (zs_kz (zs_if_ne hX dX10_stop_12 (by decide) (fun _ _ _ _ _ _ h => h))))
set_option maxRecDepth 20000 in
theorem bX10_stop_15 {X : pz_C} (hX : pz_X X cX10_stop 8 RX10) : ∀ lv st g c s, (zo_ic 1 (1) (zo_goto 20 (pz_Z X 8))) 15 lv st g c s → pz_Z X 8 15 lv st g c s := (zs_iconst hX dX10_stop_15 (by decide) (zs_goto hX dX10_stop_16 (by decide) (fun _ _ _ _ _ _ h => h)))
set_option maxRecDepth 20000 in
theorem bX10_stop_19 {X : pz_C} (hX : pz_X X cX10_stop 8 RX10) : ∀ lv st g c s, (zo_ic 1 (0) (pz_Z X 8)) 19 lv st g c s → pz_Z X 8 19 lv st g c s := (zs_iconst hX dX10_stop_19 (by decide) (fun _ _ _ _ _ h => h))
set_option maxRecDepth 20000 in
theorem bX10_stop_20 {X : pz_C} (hX : pz_X X cX10_stop 8 RX10) : ∀ lv st g c s, (zo_is 2 7 (zo_al 1 0 (zo_il 2 7 (zo_ll 1 3 (zo_lc 1 (0) (zo_lc 3 (259200) (pz_Z X 8))))))) 20 lv st g c s → pz_Z X 8 20 lv st g c s := (zs_istore hX dX10_stop_20 (by decide) (zs_aload_n hX dX10_stop_22 rfl (zs_iload hX dX10_stop_23 (zs_lload_n hX dX10_stop_25 rfl (zs_lconst hX dX10_stop_26 (by decide) (zs_ldc2 hX dX10_stop_27 mw_358b21a7 (fun _ _ _ _ _ h => h)))))))
set_option maxRecDepth 20000 in
theorem bX10_stop_30 {X : pz_C} {G : pz_Gx} {rm : Room} (hX : pz_X X cX10_stop 8 RX10) (hrm : pz_rm X = rm) (hGX : pz_GX X G) (hOk : pz_OK G) (gh : gt_X10_within) (hr_X10_within : rm_X10_within.frames + 1 ≤ rm.frames ∧ 8 + (6 + 11) + rm_X10_within.locals ≤ rm.locals) : ∀ lv st g c s, (zo_cs rm 3 3 rm_X10_within.cells rm_X10_within.slots (pr_X10_within gh) (po_X10_within gh) (zo_kz (zo_if_eq 48 (pz_Z X 8)))) 30 lv st g c s → pz_Z X 8 30 lv st g c s := by
  subst hrm
  exact (zs_csS hX hGX (ct_X10_within hOk gh) mw_b2fd6b25 mw_bf52c9cc mw_33939a39 mw_fee1cb2c (by decide +kernel) hr_X10_within dX10_stop_30 (zs_kz (zs_if_eq hX dX10_stop_33 (by decide) (fun _ _ _ _ _ _ h => h))))
set_option maxRecDepth 20000 in
theorem bX10_stop_36 {X : pz_C} (hX : pz_X X cX10_stop 8 RX10) : ∀ lv st g c s, (zo_ll 2 5 (zo_lc 1 (0) (zo_lc 3 (259200) (pz_Z X 8)))) 36 lv st g c s → pz_Z X 8 36 lv st g c s := (zs_lload hX dX10_stop_36 (zs_lconst hX dX10_stop_38 (by decide) (zs_ldc2 hX dX10_stop_39 mw_358b21a7 (fun _ _ _ _ _ h => h))))
set_option maxRecDepth 20000 in
theorem bX10_stop_42 {X : pz_C} {G : pz_Gx} {rm : Room} (hX : pz_X X cX10_stop 8 RX10) (hrm : pz_rm X = rm) (hGX : pz_GX X G) (hOk : pz_OK G) (gh : gt_X10_within) (hr_X10_within : rm_X10_within.frames + 1 ≤ rm.frames ∧ 8 + (6 + 11) + rm_X10_within.locals ≤ rm.locals) : ∀ lv st g c s, (zo_cs rm 3 3 rm_X10_within.cells rm_X10_within.slots (pr_X10_within gh) (po_X10_within gh) (zo_kz (zo_if_ne 52 (pz_Z X 8)))) 42 lv st g c s → pz_Z X 8 42 lv st g c s := by
  subst hrm
  exact (zs_csS hX hGX (ct_X10_within hOk gh) mw_b2fd6b25 mw_bf52c9cc mw_33939a39 mw_fee1cb2c (by decide +kernel) hr_X10_within dX10_stop_42 (zs_kz (zs_if_ne hX dX10_stop_45 (by decide) (fun _ _ _ _ _ _ h => h))))
set_option maxRecDepth 20000 in
theorem bX10_stop_48 {X : pz_C} (hX : pz_X X cX10_stop 8 RX10) : ∀ lv st g c s, (zo_ic 1 (1) (zo_goto 53 (pz_Z X 8))) 48 lv st g c s → pz_Z X 8 48 lv st g c s := (zs_iconst hX dX10_stop_48 (by decide) (zs_goto hX dX10_stop_49 (by decide) (fun _ _ _ _ _ _ h => h)))
set_option maxRecDepth 20000 in
theorem bX10_stop_52 {X : pz_C} (hX : pz_X X cX10_stop 8 RX10) : ∀ lv st g c s, (zo_ic 1 (0) (pz_Z X 8)) 52 lv st g c s → pz_Z X 8 52 lv st g c s := (zs_iconst hX dX10_stop_52 (by decide) (fun _ _ _ _ _ h => h))
set_option maxRecDepth 20000 in
theorem bX10_stop_53 {X : pz_C} (hX : pz_X X cX10_stop 8 RX10) : ∀ lv st g c s, (zo_il 2 7 (zo_if_ne 73 (pz_Z X 8))) 53 lv st g c s → pz_Z X 8 53 lv st g c s := (zs_iload hX dX10_stop_53 (zs_if_ne hX dX10_stop_55 (by decide) (fun _ _ _ _ _ _ h => h)))
set_option maxRecDepth 20000 in
theorem bX10_stop_58 {X : pz_C} (hX : pz_X X cX10_stop 8 RX10) : ∀ lv st g c s, (zo_al 1 0 (zo_get 12 3 (zo_il 1 1 (zo_iald (zo_ic 2 (12) (zo_ic_ne 73 (pz_Z X 8))))))) 58 lv st g c s → pz_Z X 8 58 lv st g c s := (zs_aload_n hX dX10_stop_58 rfl (zs_get hX (C := RX10) (T := TX10) (N := 37) rfl in_X10 (by decide) mw_6c7416b9 dX10_stop_59 (zs_iload_n hX dX10_stop_62 rfl (zs_iald hX dX10_stop_63 (zs_bipush hX dX10_stop_64 (by decide) (zs_ic_ne hX dX10_stop_66 (by decide) (fun _ _ _ _ _ _ h => h)))))))
set_option maxRecDepth 20000 in
theorem bX10_stop_69 {X : pz_C} (hX : pz_X X cX10_stop 8 RX10) : ∀ lv st g c s, (zo_ic 1 (1) (zo_goto 74 (pz_Z X 8))) 69 lv st g c s → pz_Z X 8 69 lv st g c s := (zs_iconst hX dX10_stop_69 (by decide) (zs_goto hX dX10_stop_70 (by decide) (fun _ _ _ _ _ _ h => h)))
set_option maxRecDepth 20000 in
theorem bX10_stop_73 {X : pz_C} (hX : pz_X X cX10_stop 8 RX10) : ∀ lv st g c s, (zo_ic 1 (0) (pz_Z X 8)) 73 lv st g c s → pz_Z X 8 73 lv st g c s := (zs_iconst hX dX10_stop_73 (by decide) (fun _ _ _ _ _ h => h))
set_option maxRecDepth 20000 in
theorem bX10_stop_74 {X : pz_C} {G : pz_Gx} {rm : Room} (hX : pz_X X cX10_stop 8 RX10) (hrm : pz_rm X = rm) (hGX : pz_GX X G) (hOk : pz_OK G) (gh : gt_X10_refused) (hr_X10_refused : rm_X10_refused.frames + 1 ≤ rm.frames ∧ 8 + (4 + 11) + rm_X10_refused.locals ≤ rm.locals) : ∀ lv st g c s, (zo_cV rm 12 3 3 rm_X10_refused.cells rm_X10_refused.slots (pr_X10_refused gh) (po_X10_refused gh) (zo_kz (zo_if_eq 82 (pz_Z X 8)))) 74 lv st g c s → pz_Z X 8 74 lv st g c s := by
  subst hrm
  exact (zs_csV hX hGX (C := RX10) (T := TX10) (N := 37) rfl (ct_X10_refused hOk gh) mw_53c1f8a2 mw_ba17b74c mw_7c91c019 mw_33939a39 mw_471b458e (by decide +kernel) hr_X10_refused dX10_stop_74 (zs_kz (zs_if_eq hX dX10_stop_77 (by decide) (fun _ _ _ _ _ _ h => h))))
set_option maxRecDepth 20000 in
theorem bX10_stop_80 {X : pz_C} {rm : Room} {E : Option pz_V → pz_H → Prop} (hX : pz_X X cX10_stop 8 RX10) (hR : pz_Rt X cX10_stop 8 (some .int) rm E) : ∀ lv st g c s, (zo_ic 1 (0) (zo_ri rm E)) 80 lv st g c s → pz_Z X 8 80 lv st g c s := (zs_iconst hX dX10_stop_80 (by decide) (zs_ri hR dX10_stop_81))
set_option maxRecDepth 20000 in
theorem bX10_stop_82 {X : pz_C} (hX : pz_X X cX10_stop 8 RX10) : ∀ lv st g c s, (zo_ll 2 5 (zo_ll 1 3 (zo_lcmp (zo_if_lt 121 (pz_Z X 8))))) 82 lv st g c s → pz_Z X 8 82 lv st g c s := (zs_lload hX dX10_stop_82 (zs_lload_n hX dX10_stop_84 rfl (zs_lcmp hX dX10_stop_85 (zs_if_lt hX dX10_stop_86 (by decide) (fun _ _ _ _ _ _ h => h)))))
set_option maxRecDepth 20000 in
theorem bX10_stop_89 {X : pz_C} (hX : pz_X X cX10_stop 8 RX10) : ∀ lv st g c s, (zo_al 1 0 (zo_get 12 3 (zo_il 1 1 (zo_iald (zo_if_le 123 (pz_Z X 8)))))) 89 lv st g c s → pz_Z X 8 89 lv st g c s := (zs_aload_n hX dX10_stop_89 rfl (zs_get hX (C := RX10) (T := TX10) (N := 37) rfl in_X10 (by decide) mw_6c7416b9 dX10_stop_90 (zs_iload_n hX dX10_stop_93 rfl (zs_iald hX dX10_stop_94 (zs_if_le hX dX10_stop_95 (by decide) (fun _ _ _ _ _ _ h => h))))))
set_option maxRecDepth 20000 in
theorem bX10_stop_98 {X : pz_C} (hX : pz_X X cX10_stop 8 RX10) : ∀ lv st g c s, (zo_ll 1 3 (zo_al 1 0 (zo_get 12 6 (zo_ic 2 (12) (zo_il 1 1 (zo_imul (zo_al 1 0 (zo_get 12 3 (zo_il 1 1 (zo_iald (zo_iadd (zo_ic 1 (1) (zo_isub (zo_lald (zo_lcmp (zo_if_ge 123 (pz_Z X 8))))))))))))))))) 98 lv st g c s → pz_Z X 8 98 lv st g c s := (zs_lload_n hX dX10_stop_98 rfl (zs_aload_n hX dX10_stop_99 rfl (zs_get hX (C := RX10) (T := TX10) (N := 37) rfl in_X10 (by decide) mw_7b8e4d38 dX10_stop_100 (zs_bipush hX dX10_stop_103 (by decide) (zs_iload_n hX dX10_stop_105 rfl (zs_imul hX dX10_stop_106 (zs_aload_n hX dX10_stop_107 rfl (zs_get hX (C := RX10) (T := TX10) (N := 37) rfl in_X10 (by decide) mw_6c7416b9 dX10_stop_108 (zs_iload_n hX dX10_stop_111 rfl (zs_iald hX dX10_stop_112 (zs_iadd hX dX10_stop_113 (zs_iconst hX dX10_stop_114 (by decide) (zs_isub hX dX10_stop_115 (zs_lald hX dX10_stop_116 (zs_lcmp hX dX10_stop_117 (zs_if_ge hX dX10_stop_118 (by decide) (fun _ _ _ _ _ _ h => h)))))))))))))))))
set_option maxRecDepth 20000 in
theorem bX10_stop_121 {X : pz_C} {rm : Room} {E : Option pz_V → pz_H → Prop} (hX : pz_X X cX10_stop 8 RX10) (hR : pz_Rt X cX10_stop 8 (some .int) rm E) : ∀ lv st g c s, (zo_ic 1 (0) (zo_ri rm E)) 121 lv st g c s → pz_Z X 8 121 lv st g c s := (zs_iconst hX dX10_stop_121 (by decide) (zs_ri hR dX10_stop_122))
set_option maxRecDepth 20000 in
theorem bX10_stop_123 {X : pz_C} (hX : pz_X X cX10_stop 8 RX10) : ∀ lv st g c s, (zo_al 1 0 (zo_il 1 1 (zo_il 1 2 (zo_ll 1 3 (zo_ll 2 5 (pz_Z X 8)))))) 123 lv st g c s → pz_Z X 8 123 lv st g c s := (zs_aload_n hX dX10_stop_123 rfl (zs_iload_n hX dX10_stop_124 rfl (zs_iload_n hX dX10_stop_125 rfl (zs_lload_n hX dX10_stop_126 rfl (zs_lload hX dX10_stop_127 (fun _ _ _ _ _ h => h))))))
set_option maxRecDepth 20000 in
theorem bX10_stop_129 {X : pz_C} {G : pz_Gx} {rm : Room} {E : Option pz_V → pz_H → Prop} (hX : pz_X X cX10_stop 8 RX10) (hR : pz_Rt X cX10_stop 8 (some .int) rm E) (hrm : pz_rm X = rm) (hGX : pz_GX X G) (hOk : pz_OK G) (gh : gt_X10_addStop) (hr_X10_addStop : rm_X10_addStop.frames + 1 ≤ rm.frames ∧ 8 + (8 + 11) + rm_X10_addStop.locals ≤ rm.locals) : ∀ lv st g c s, (zo_cV rm 12 4 3 rm_X10_addStop.cells rm_X10_addStop.slots (pr_X10_addStop gh) (po_X10_addStop gh) (zo_kv (zo_ic 1 (1) (zo_ri rm E)))) 129 lv st g c s → pz_Z X 8 129 lv st g c s := by
  subst hrm
  exact (zs_csV hX hGX (C := RX10) (T := TX10) (N := 37) rfl (ct_X10_addStop hOk gh) mw_545736fd mw_da35c34f mw_f9e1ba14 mw_33939a39 mw_c0e3c33a (by decide +kernel) hr_X10_addStop dX10_stop_129 (zs_kv (zs_iconst hX dX10_stop_132 (by decide) (zs_ri hR dX10_stop_133))))
def mx_none (l p : Int32) (nl : Nat) : Bool := !wi l.toInt64 0 (nI nl - 1).toInt64 || !wi p.toInt64 0 99
def mx_b (x y : Int64) : Bool := !wi x 0 259200 || !wi y 0 259200
def mx_c (l p : Int32) (nl : Nat) (cn : Nat → Nat) : Bool := !mx_none l p nl && decide (cn l.toNatClampNeg = 12)
def rm_X10_stop : Room := { frames := 2, cells := 0, slots := 0, locals := 46 }
abbrev gt_X10_stop : Type := ((Int32 × Int32 × Int64 × Int64) × Nat × (Nat → Nat)) × mo_T
def pr_X10_stop : gt_X10_stop → List pz_V → pz_H → Prop := fun (((l, p, x, y), nl, cn), (mo, M, I, Ai, Aj)) av g => av = [.inr (.inr (some (mo))), .inl (l), .inl (p), .inr (.inl (x)), .inr (.inl (y))] ∧ I 1 = nI nl ∧ nl ≤ 40 ∧ (∀ k, k < nl → Ai 3 k = nI (cn k) ∧ cn k ≤ 12) ∧ moS g mo M I Ai Aj
def po_X10_stop : gt_X10_stop → List pz_V → pz_H → Option pz_V → pz_H → Prop := fun (((l, p, x, y), nl, cn), (mo, M, I, Ai, Aj)) _ g v g' => hg moL g g' ∧ (((mx_none l p nl || (mx_b x y || mx_c l p nl cn)) = true ∧ v = some (.inl 0) ∧ moS g' mo M (upd I 0 (rf3 (mx_none l p nl) (mx_b x y) (mx_c l p nl cn))) Ai Aj) ∨ ((mx_none l p nl || (mx_b x y || mx_c l p nl cn)) = false ∧ ∃ k q, k < nl ∧ l = nI k ∧ q < 100 ∧ p = nI q ∧ cn k < 12 ∧ ((((y < x) ∨ (0 < cn k ∧ x < Aj 6 (12 * k + cn k - 1))) ∧ v = some (.inl 0) ∧ moS g' mo M (upd I 0 0) Ai Aj) ∨ (¬ ((y < x) ∨ (0 < cn k ∧ x < Aj 6 (12 * k + cn k - 1))) ∧ v = some (.inl 1) ∧ moS g' mo M (upd I 0 0) (mo_as Ai k (cn k) p) (mo_aj Aj k (cn k) x y)))))
set_option maxRecDepth 20000 in
set_option maxHeartbeats 8000000 in
theorem ct_X10_stop {G : pz_Gx} (hOk : pz_OK G) (gh : gt_X10_stop) : pz_M G yX10_stop cX10_stop 8 (some .int) rm_X10_stop (pr_X10_stop gh) (po_X10_stop gh) := by
  obtain ⟨⟨⟨l, p, x, y⟩, nl, cn⟩, mo, M, I, Ai, Aj⟩ := gh
  refine pz_ofZ (by decide) hOk.1 (Or.inr (Or.inl rfl)) ?_ ?_
  · rintro av g ⟨rfl, -⟩
    exact Nat.le_of_ble_eq_true rfl
  · rintro X hX hGX hrm - av g ⟨rfl, hnl, hnl40, hcn, hm⟩ hR
    have h1 := hm.1
    have at74 : ∀ (a b c : Bool) (lv : pz_L), a = mx_none l p nl → b = mx_b x y → c = mx_c l p nl cn → pz_all lv [(0, .inr (.inr (some (mo)))), (1, .inl (l)), (2, .inl (p)), (3, .inr (.inl (x))), (5, .inr (.inl (y)))] → pz_Z X 8 74 lv [.inl (b01 c), .inl (b01 b), .inl (b01 a), .inr (.inr (some (mo)))] g 0 0 := by
      intro a b c lv ha hb hc hlv
      refine pz_lsub hlv ?_
      refine bX10_stop_74 hX hrm hGX hOk ((mo, a, b, c), M, I) (by decide) _ _ _ _ _ ⟨Nat.le_of_ble_eq_true rfl, ⟨mo, [.inl (b01 a), .inl (b01 b), .inl (b01 c)], [100], _, rfl, h1⟩, Nat.le_of_ble_eq_true rfl, Nat.le_of_ble_eq_true rfl, Nat.le_of_ble_eq_true rfl, ⟨rfl, h1⟩, ?_⟩
      rintro v g2 ⟨rfl, rfl⟩ z hz -
      cases hz
      obtain ⟨hm2, hS2⟩ := mo_f hm 0 (by decide) (rf3 a b c)
      refine ⟨fun q => ?_, fun q => ?_⟩
      · rw [b01_z] at q
        have hq := Bool.or_eq_false_iff.mp q
        have hq2 := Bool.or_eq_false_iff.mp hq.2
        rw [show rf3 a b c = 0 by rw [hq.1, hq2.1, hq2.2]; rfl] at hm2 hS2 ⊢
        have e0 : (mo_fs I M).set 0 (.inl 0) = mo_fs (upd I 0 0) M := mo_set 0 (by decide) 0
        rw [e0] at hm2 hS2 ⊢
        have hnone : mx_none l p nl = false := by rw [← ha]; exact hq.1
        have hno2 := Bool.or_eq_false_iff.mp hnone
        obtain ⟨k, hk, rfl⟩ : ∃ q, q < nl ∧ l = nI q := wi_nK (by omega) (by
          have := hno2.1
          simpa using this)
        obtain ⟨pp, hpp, rfl⟩ : ∃ q, q ≤ 99 ∧ p = nI q := wi_nI (by omega) (by
          have h9 : wi p.toInt64 0 99 = true := by
            have := hno2.2
            simpa using this
          exact h9)
        obtain ⟨hc3, hc12⟩ := hcn k hk
        have hkc : (nI k).toNatClampNeg = k := ni_cl (by omega)
        have hki : vp_in (nI k) 40 := ni_in (by omega) (by omega)
        have hcl : cn k < 12 := by
          have h9 : mx_c (nI k) (nI pp) nl cn = false := by rw [← hc]; exact hq2.2
          unfold mx_c at h9
          rw [hnone, hkc] at h9
          have h10 : decide (cn k = 12) = false := by simpa using h9
          have := of_decide_eq_false h10
          omega
        have m3 : va_up g mo (some ([100], .inr (12, mo_fs (upd I 0 0) M))) (M 3) = some ([101, 3], ar_i 40 (Ai 3)) := hm2.2.1 3 (by decide)
        have m6 : va_up g mo (some ([100], .inr (12, mo_fs (upd I 0 0) M))) (M 6) = some ([101, 6], ar_j 480 (Aj 6)) := hm2.2.2.2 6 (by decide)
        have hall : (mx_none (nI k) (nI pp) nl || (mx_b x y || mx_c (nI k) (nI pp) nl cn)) = false := by rw [← ha, ← hb, ← hc]; exact q
        have zero : ((y < x) ∨ (0 < cn k ∧ x < Aj 6 (12 * k + cn k - 1))) → ∀ lv : pz_L, pz_Z X 8 121 lv [] (va_up g mo (some ([100], .inr (12, mo_fs (upd I 0 0) M)))) 0 0 := fun h lv => bX10_stop_121 hX hR _ _ _ _ _ ⟨Nat.le_refl _, Nat.le_refl _, hS2, Or.inr ⟨hall, k, pp, hk, rfl, by omega, rfl, hcl, Or.inl ⟨h, rfl, hm2⟩⟩⟩
        have one : ¬ ((y < x) ∨ (0 < cn k ∧ x < Aj 6 (12 * k + cn k - 1))) → ∀ lv : pz_L, pz_all lv [(0, .inr (.inr (some (mo)))), (1, .inl (nI k)), (2, .inl (nI pp)), (3, .inr (.inl (x))), (5, .inr (.inl (y)))] → pz_Z X 8 123 lv [] (va_up g mo (some ([100], .inr (12, mo_fs (upd I 0 0) M)))) 0 0 := by
          intro h lv hlv
          refine pz_lsub hlv ?_
          refine bX10_stop_123 hX _ _ _ _ _ ?_
          refine bX10_stop_129 hX hR hrm hGX hOk ((k, nI pp, x, y, cn k), (mo, M, upd I 0 0, Ai, Aj)) (by decide) _ _ _ _ _ ⟨Nat.le_of_ble_eq_true rfl, ⟨mo, [.inl (nI k), .inl (nI pp), .inr (.inl (x)), .inr (.inl (y))], [100], _, rfl, hm2.1⟩, Nat.le_of_ble_eq_true rfl, Nat.le_of_ble_eq_true rfl, Nat.le_of_ble_eq_true rfl, ⟨rfl, by omega, hcl, hc3, hm2⟩, ?_⟩
          rintro v g3 ⟨rfl, hS3, hm3⟩ -
          exact ⟨Nat.le_refl _, Nat.le_refl _, hg_tr hS2 hS3, Or.inr ⟨hall, k, pp, hk, rfl, by omega, rfl, hcl, Or.inr ⟨h, rfl, hm3⟩⟩⟩
        refine bX10_stop_82 hX _ _ _ _ _ ⟨fun q1 => ?_, fun q1 => ?_⟩
        · exact zero (Or.inl ((lc_lt _ _).mp q1)) _
        · have h1n : ¬ y < x := fun z => q1 ((lc_lt _ _).mpr z)
          refine bX10_stop_89 hX _ _ _ _ _ ⟨_, _, _, hm2.1, rfl, _, _, _, m3, hki, ?_⟩
          rw [hkc, hc3]
          refine ⟨fun q2 => ?_, fun q2 => ?_⟩
          · have hc0 : cn k ≤ 0 := (ni_le (b := 0) (by omega) (by omega)).mp q2
            exact one (fun z => z.elim h1n (fun z => by omega)) _ ⟨rfl, rfl, rfl, rfl, rfl, trivial⟩
          · have hc0 : 0 < cn k := Nat.lt_of_not_le (fun z => q2 ((ni_le (b := 0) (by omega) (by omega)).mpr z))
            have eix : (12 : Int32) * nI k + nI (cn k) - 1 = nI (12 * k + cn k - 1) := by rw [ix_12, ni_pred (by omega)]
            refine bX10_stop_98 hX _ _ _ _ _ ⟨_, _, _, hm2.1, rfl, _, _, _, hm2.1, rfl, _, _, _, m3, hki, ?_⟩
            rw [hkc, hc3]
            refine ⟨_, _, _, m6, by rw [eix]; exact ni_in (by omega) (by omega), ?_⟩
            rw [eix, ni_cl (by omega)]
            refine ⟨fun q3 => ?_, fun q3 => ?_⟩
            · exact one (fun z => z.elim h1n (fun z => absurd z.2 (Int64.not_lt.mpr ((lc_ge _ _).mp q3)))) _ ⟨rfl, rfl, rfl, rfl, rfl, trivial⟩
            · exact zero (Or.inr ⟨hc0, Int64.not_le.mp (fun z => q3 ((lc_ge _ _).mpr z))⟩) _
      · rw [b01_nz] at q
        exact bX10_stop_80 hX hR _ _ _ _ _ ⟨Nat.le_refl _, Nat.le_refl _, hS2, Or.inl ⟨by rw [← ha, ← hb, ← hc]; exact q, rfl, by rw [← ha, ← hb, ← hc]; exact hm2⟩⟩
    have at53 : ∀ (a b : Bool), a = mx_none l p nl → b = mx_b x y → pz_Z X 8 53 [(7, .inl (b01 a)), (0, .inr (.inr (some (mo)))), (1, .inl (l)), (2, .inl (p)), (3, .inr (.inl (x))), (5, .inr (.inl (y)))] [.inl (b01 b), .inl (b01 a), .inr (.inr (some (mo)))] g 0 0 := by
      intro a b ha hb
      refine bX10_stop_53 hX _ _ _ _ _ ⟨fun q => ?_, fun q => ?_⟩
      · rw [b01_nz] at q
        refine bX10_stop_73 hX _ _ _ _ _ ?_
        exact at74 a b false _ ha hb (by unfold mx_c; rw [← ha, q]; rfl) ⟨rfl, rfl, rfl, rfl, rfl, trivial⟩
      · rw [b01_z] at q
        have hnone : mx_none l p nl = false := by rw [← ha]; exact q
        have hno2 := Bool.or_eq_false_iff.mp hnone
        obtain ⟨k, hk, rfl⟩ : ∃ q, q < nl ∧ l = nI q := wi_nK (by omega) (by
          have := hno2.1
          simpa using this)
        obtain ⟨hc3, hc12⟩ := hcn k hk
        have hkc : (nI k).toNatClampNeg = k := ni_cl (by omega)
        have hki : vp_in (nI k) 40 := ni_in (by omega) (by omega)
        have m3 : g (M 3) = some ([101, 3], ar_i 40 (Ai 3)) := hm.2.1 3 (by decide)
        refine bX10_stop_58 hX _ _ _ _ _ ⟨_, _, _, h1, rfl, _, _, _, m3, hki, ?_⟩
        rw [hkc, hc3]
        refine ⟨fun q2 => ?_, fun q2 => ?_⟩
        · refine bX10_stop_73 hX _ _ _ _ _ ?_
          exact at74 a b false _ ha hb (by unfold mx_c; rw [hnone, hkc, decide_eq_false (fun e => q2 (by rw [e]; rfl))]; rfl) ⟨rfl, rfl, rfl, rfl, rfl, trivial⟩
        · refine bX10_stop_69 hX _ _ _ _ _ ?_
          exact at74 a b true _ ha hb (by unfold mx_c; rw [hnone, hkc, decide_eq_true (ni_inj (b := 12) (by omega) (by omega) q2)]; rfl) ⟨rfl, rfl, rfl, rfl, rfl, trivial⟩
    have at20 : ∀ (a : Bool), a = mx_none l p nl → pz_Z X 8 20 [(0, .inr (.inr (some (mo)))), (1, .inl (l)), (2, .inl (p)), (3, .inr (.inl (x))), (5, .inr (.inl (y)))] [.inl (b01 a)] g 0 0 := by
      intro a ha
      have bad : mx_b x y = true → pz_Z X 8 48 [(7, .inl (b01 a)), (0, .inr (.inr (some (mo)))), (1, .inl (l)), (2, .inl (p)), (3, .inr (.inl (x))), (5, .inr (.inl (y)))] [.inl (b01 a), .inr (.inr (some (mo)))] g 0 0 := by
        intro h
        refine bX10_stop_48 hX _ _ _ _ _ ?_
        exact at53 a true ha h.symm
      refine bX10_stop_20 hX _ _ _ _ _ ?_
      refine bX10_stop_30 hX hrm hGX hOk (x, 0, 259200) (by decide) _ _ _ _ _ ⟨Nat.le_of_ble_eq_true rfl, Nat.le_of_ble_eq_true rfl, Nat.le_of_ble_eq_true rfl, Nat.le_of_ble_eq_true rfl, rfl, ?_⟩
      rintro v g2 ⟨rfl, rfl⟩ z hz -
      cases hz
      refine ⟨fun q => ?_, fun q => ?_⟩
      · rw [b01_z] at q
        exact bad (by unfold mx_b; rw [q]; rfl)
      · rw [b01_nz] at q
        refine bX10_stop_36 hX _ _ _ _ _ ?_
        refine bX10_stop_42 hX hrm hGX hOk (y, 0, 259200) (by decide) _ _ _ _ _ ⟨Nat.le_of_ble_eq_true rfl, Nat.le_of_ble_eq_true rfl, Nat.le_of_ble_eq_true rfl, Nat.le_of_ble_eq_true rfl, rfl, ?_⟩
        rintro v g2 ⟨rfl, rfl⟩ z hz -
        cases hz
        refine ⟨fun q2 => ?_, fun q2 => ?_⟩
        · rw [b01_nz] at q2
          refine bX10_stop_52 hX _ _ _ _ _ ?_
          exact at53 a false ha (by unfold mx_b; rw [q, q2]; rfl)
        · rw [b01_z] at q2
          exact bad (by unfold mx_b; rw [q2]; simp)
    have bad : mx_none l p nl = true → pz_Z X 8 15 [(0, .inr (.inr (some (mo)))), (1, .inl (l)), (2, .inl (p)), (3, .inr (.inl (x))), (5, .inr (.inl (y)))] [] g 0 0 := by
      intro h
      refine bX10_stop_15 hX _ _ _ _ _ ?_
      exact at20 true h.symm
    refine bX10_stop_0 hX _ _ _ _ _ ?_
    refine bX10_stop_2 hX hrm hGX hOk ((mo, l), M, I) (by decide) _ _ _ _ _ ⟨Nat.le_of_ble_eq_true rfl, ⟨mo, [.inl (l)], [100], _, rfl, h1⟩, Nat.le_of_ble_eq_true rfl, Nat.le_of_ble_eq_true rfl, Nat.le_of_ble_eq_true rfl, ⟨rfl, h1⟩, ?_⟩
    rintro v g2 ⟨rfl, rfl⟩ z hz -
    cases hz
    rw [hnl]
    refine ⟨fun q => ?_, fun q => ?_⟩
    · rw [b01_z] at q
      exact bad (by unfold mx_none; rw [q]; rfl)
    · rw [b01_nz] at q
      refine bX10_stop_8 hX _ _ _ _ _ ?_
      refine bX10_stop_9 hX hrm hGX hOk p (by decide) _ _ _ _ _ ⟨Nat.le_of_ble_eq_true rfl, Nat.le_of_ble_eq_true rfl, Nat.le_of_ble_eq_true rfl, Nat.le_of_ble_eq_true rfl, rfl, ?_⟩
      rintro v g2 ⟨rfl, rfl⟩ z hz -
      cases hz
      refine ⟨fun q2 => ?_, fun q2 => ?_⟩
      · rw [b01_nz] at q2
        refine bX10_stop_19 hX _ _ _ _ _ ?_
        exact at20 false (by unfold mx_none; rw [q, q2]; rfl)
      · rw [b01_z] at q2
        exact bad (by unfold mx_none; rw [q2]; simp)
set_option maxRecDepth 20000 in
theorem bX10_change_0 {X : pz_C} (hX : pz_X X cX10_change 8 RX10) : ∀ lv st g c s, (zo_al 1 0 (zo_il 1 1 (pz_Z X 8))) 0 lv st g c s → pz_Z X 8 0 lv st g c s := (zs_aload_n hX dX10_change_0 rfl (zs_iload_n hX dX10_change_1 rfl (fun _ _ _ _ _ h => h)))
set_option maxRecDepth 20000 in
theorem bX10_change_2 {X : pz_C} {G : pz_Gx} {rm : Room} (hX : pz_X X cX10_change 8 RX10) (hrm : pz_rm X = rm) (hGX : pz_GX X G) (hOk : pz_OK G) (gh : gt_X10_isLine) (hr_X10_isLine : rm_X10_isLine.frames + 1 ≤ rm.frames ∧ 8 + (2 + 11) + rm_X10_isLine.locals ≤ rm.locals) : ∀ lv st g c s, (zo_cV rm 12 1 3 rm_X10_isLine.cells rm_X10_isLine.slots (pr_X10_isLine gh) (po_X10_isLine gh) (zo_kz (zo_if_eq 26 (pz_Z X 8)))) 2 lv st g c s → pz_Z X 8 2 lv st g c s := by
  subst hrm
  exact (zs_csV hX hGX (C := RX10) (T := TX10) (N := 37) rfl (ct_X10_isLine hOk gh) mw_e8056c21 mw_6b16837e mw_6737fe84 mw_33939a39 mw_6be8286f (by decide +kernel) hr_X10_isLine dX10_change_2 (zs_kz (zs_if_eq hX dX10_change_5 (by decide) (fun _ _ _ _ _ _ h => h))))
set_option maxRecDepth 20000 in
theorem bX10_change_8 {X : pz_C} (hX : pz_X X cX10_change 8 RX10) : ∀ lv st g c s, (zo_il 1 2 (zo_i2l (zo_lc 1 (0) (zo_al 1 0 (zo_get 12 3 (zo_il 1 1 (zo_iald (zo_ic 1 (1) (zo_isub (zo_i2l (pz_Z X 8))))))))))) 8 lv st g c s → pz_Z X 8 8 lv st g c s := (zs_iload_n hX dX10_change_8 rfl (zs_i2l hX dX10_change_9 (zs_lconst hX dX10_change_10 (by decide) (zs_aload_n hX dX10_change_11 rfl (zs_get hX (C := RX10) (T := TX10) (N := 37) rfl in_X10 (by decide) mw_6c7416b9 dX10_change_12 (zs_iload_n hX dX10_change_15 rfl (zs_iald hX dX10_change_16 (zs_iconst hX dX10_change_17 (by decide) (zs_isub hX dX10_change_18 (zs_i2l hX dX10_change_19 (fun _ _ _ _ _ h => h)))))))))))
set_option maxRecDepth 20000 in
theorem bX10_change_20 {X : pz_C} {G : pz_Gx} {rm : Room} (hX : pz_X X cX10_change 8 RX10) (hrm : pz_rm X = rm) (hGX : pz_GX X G) (hOk : pz_OK G) (gh : gt_X10_within) (hr_X10_within : rm_X10_within.frames + 1 ≤ rm.frames ∧ 8 + (6 + 11) + rm_X10_within.locals ≤ rm.locals) : ∀ lv st g c s, (zo_cs rm 3 3 rm_X10_within.cells rm_X10_within.slots (pr_X10_within gh) (po_X10_within gh) (zo_kz (zo_if_ne 30 (pz_Z X 8)))) 20 lv st g c s → pz_Z X 8 20 lv st g c s := by
  subst hrm
  exact (zs_csS hX hGX (ct_X10_within hOk gh) mw_b2fd6b25 mw_bf52c9cc mw_33939a39 mw_fee1cb2c (by decide +kernel) hr_X10_within dX10_change_20 (zs_kz (zs_if_ne hX dX10_change_23 (by decide) (fun _ _ _ _ _ _ h => h))))
set_option maxRecDepth 20000 in
theorem bX10_change_26 {X : pz_C} (hX : pz_X X cX10_change 8 RX10) : ∀ lv st g c s, (zo_ic 1 (1) (zo_goto 31 (pz_Z X 8))) 26 lv st g c s → pz_Z X 8 26 lv st g c s := (zs_iconst hX dX10_change_26 (by decide) (zs_goto hX dX10_change_27 (by decide) (fun _ _ _ _ _ _ h => h)))
set_option maxRecDepth 20000 in
theorem bX10_change_30 {X : pz_C} (hX : pz_X X cX10_change 8 RX10) : ∀ lv st g c s, (zo_ic 1 (0) (pz_Z X 8)) 30 lv st g c s → pz_Z X 8 30 lv st g c s := (zs_iconst hX dX10_change_30 (by decide) (fun _ _ _ _ _ h => h))
set_option maxRecDepth 20000 in
theorem bX10_change_31 {X : pz_C} (hX : pz_X X cX10_change 8 RX10) : ∀ lv st g c s, (zo_is 2 7 (zo_al 1 0 (zo_il 2 7 (zo_ll 1 3 (zo_lc 1 (0) (zo_lc 3 (100000) (pz_Z X 8))))))) 31 lv st g c s → pz_Z X 8 31 lv st g c s := (zs_istore hX dX10_change_31 (by decide) (zs_aload_n hX dX10_change_33 rfl (zs_iload hX dX10_change_34 (zs_lload_n hX dX10_change_36 rfl (zs_lconst hX dX10_change_37 (by decide) (zs_ldc2 hX dX10_change_38 mw_e15ddb53 (fun _ _ _ _ _ h => h)))))))
set_option maxRecDepth 20000 in
theorem bX10_change_41 {X : pz_C} {G : pz_Gx} {rm : Room} (hX : pz_X X cX10_change 8 RX10) (hrm : pz_rm X = rm) (hGX : pz_GX X G) (hOk : pz_OK G) (gh : gt_X10_within) (hr_X10_within : rm_X10_within.frames + 1 ≤ rm.frames ∧ 8 + (6 + 11) + rm_X10_within.locals ≤ rm.locals) : ∀ lv st g c s, (zo_cs rm 3 3 rm_X10_within.cells rm_X10_within.slots (pr_X10_within gh) (po_X10_within gh) (zo_kz (zo_if_eq 59 (pz_Z X 8)))) 41 lv st g c s → pz_Z X 8 41 lv st g c s := by
  subst hrm
  exact (zs_csS hX hGX (ct_X10_within hOk gh) mw_b2fd6b25 mw_bf52c9cc mw_33939a39 mw_fee1cb2c (by decide +kernel) hr_X10_within dX10_change_41 (zs_kz (zs_if_eq hX dX10_change_44 (by decide) (fun _ _ _ _ _ _ h => h))))
set_option maxRecDepth 20000 in
theorem bX10_change_47 {X : pz_C} (hX : pz_X X cX10_change 8 RX10) : ∀ lv st g c s, (zo_ll 2 5 (zo_lc 1 (0) (zo_lc 3 (20000) (pz_Z X 8)))) 47 lv st g c s → pz_Z X 8 47 lv st g c s := (zs_lload hX dX10_change_47 (zs_lconst hX dX10_change_49 (by decide) (zs_ldc2 hX dX10_change_50 mw_864b0a66 (fun _ _ _ _ _ h => h))))
set_option maxRecDepth 20000 in
theorem bX10_change_53 {X : pz_C} {G : pz_Gx} {rm : Room} (hX : pz_X X cX10_change 8 RX10) (hrm : pz_rm X = rm) (hGX : pz_GX X G) (hOk : pz_OK G) (gh : gt_X10_within) (hr_X10_within : rm_X10_within.frames + 1 ≤ rm.frames ∧ 8 + (6 + 11) + rm_X10_within.locals ≤ rm.locals) : ∀ lv st g c s, (zo_cs rm 3 3 rm_X10_within.cells rm_X10_within.slots (pr_X10_within gh) (po_X10_within gh) (zo_kz (zo_if_ne 63 (pz_Z X 8)))) 53 lv st g c s → pz_Z X 8 53 lv st g c s := by
  subst hrm
  exact (zs_csS hX hGX (ct_X10_within hOk gh) mw_b2fd6b25 mw_bf52c9cc mw_33939a39 mw_fee1cb2c (by decide +kernel) hr_X10_within dX10_change_53 (zs_kz (zs_if_ne hX dX10_change_56 (by decide) (fun _ _ _ _ _ _ h => h))))
set_option maxRecDepth 20000 in
theorem bX10_change_59 {X : pz_C} (hX : pz_X X cX10_change 8 RX10) : ∀ lv st g c s, (zo_ic 1 (1) (zo_goto 64 (pz_Z X 8))) 59 lv st g c s → pz_Z X 8 59 lv st g c s := (zs_iconst hX dX10_change_59 (by decide) (zs_goto hX dX10_change_60 (by decide) (fun _ _ _ _ _ _ h => h)))
set_option maxRecDepth 20000 in
theorem bX10_change_63 {X : pz_C} (hX : pz_X X cX10_change 8 RX10) : ∀ lv st g c s, (zo_ic 1 (0) (pz_Z X 8)) 63 lv st g c s → pz_Z X 8 63 lv st g c s := (zs_iconst hX dX10_change_63 (by decide) (fun _ _ _ _ _ h => h))
set_option maxRecDepth 20000 in
theorem bX10_change_64 {X : pz_C} (hX : pz_X X cX10_change 8 RX10) : ∀ lv st g c s, (zo_al 1 0 (zo_get 12 15 (zo_ic 2 (100) (zo_ic_ne 77 (pz_Z X 8))))) 64 lv st g c s → pz_Z X 8 64 lv st g c s := (zs_aload_n hX dX10_change_64 rfl (zs_get hX (C := RX10) (T := TX10) (N := 37) rfl in_X10 (by decide) mw_bc59504b dX10_change_65 (zs_bipush hX dX10_change_68 (by decide) (zs_ic_ne hX dX10_change_70 (by decide) (fun _ _ _ _ _ _ h => h)))))
set_option maxRecDepth 20000 in
theorem bX10_change_73 {X : pz_C} (hX : pz_X X cX10_change 8 RX10) : ∀ lv st g c s, (zo_ic 1 (1) (zo_goto 78 (pz_Z X 8))) 73 lv st g c s → pz_Z X 8 73 lv st g c s := (zs_iconst hX dX10_change_73 (by decide) (zs_goto hX dX10_change_74 (by decide) (fun _ _ _ _ _ _ h => h)))
set_option maxRecDepth 20000 in
theorem bX10_change_77 {X : pz_C} (hX : pz_X X cX10_change 8 RX10) : ∀ lv st g c s, (zo_ic 1 (0) (pz_Z X 8)) 77 lv st g c s → pz_Z X 8 77 lv st g c s := (zs_iconst hX dX10_change_77 (by decide) (fun _ _ _ _ _ h => h))
set_option maxRecDepth 20000 in
theorem bX10_change_78 {X : pz_C} {G : pz_Gx} {rm : Room} (hX : pz_X X cX10_change 8 RX10) (hrm : pz_rm X = rm) (hGX : pz_GX X G) (hOk : pz_OK G) (gh : gt_X10_refused) (hr_X10_refused : rm_X10_refused.frames + 1 ≤ rm.frames ∧ 8 + (4 + 11) + rm_X10_refused.locals ≤ rm.locals) : ∀ lv st g c s, (zo_cV rm 12 3 3 rm_X10_refused.cells rm_X10_refused.slots (pr_X10_refused gh) (po_X10_refused gh) (zo_kz (zo_if_eq 86 (pz_Z X 8)))) 78 lv st g c s → pz_Z X 8 78 lv st g c s := by
  subst hrm
  exact (zs_csV hX hGX (C := RX10) (T := TX10) (N := 37) rfl (ct_X10_refused hOk gh) mw_53c1f8a2 mw_ba17b74c mw_7c91c019 mw_33939a39 mw_471b458e (by decide +kernel) hr_X10_refused dX10_change_78 (zs_kz (zs_if_eq hX dX10_change_81 (by decide) (fun _ _ _ _ _ _ h => h))))
set_option maxRecDepth 20000 in
theorem bX10_change_84 {X : pz_C} {rm : Room} {E : Option pz_V → pz_H → Prop} (hX : pz_X X cX10_change 8 RX10) (hR : pz_Rt X cX10_change 8 (some .int) rm E) : ∀ lv st g c s, (zo_ic 1 (0) (zo_ri rm E)) 84 lv st g c s → pz_Z X 8 84 lv st g c s := (zs_iconst hX dX10_change_84 (by decide) (zs_ri hR dX10_change_85))
set_option maxRecDepth 20000 in
theorem bX10_change_86 {X : pz_C} {rm : Room} {E : Option pz_V → pz_H → Prop} (hX : pz_X X cX10_change 8 RX10) (hR : pz_Rt X cX10_change 8 (some .int) rm E) : ∀ lv st g c s, (zo_al 1 0 (zo_get 12 16 (zo_al 1 0 (zo_get 12 15 (zo_il 1 1 (zo_iast (zo_al 1 0 (zo_get 12 17 (zo_al 1 0 (zo_get 12 15 (zo_il 1 2 (zo_iast (zo_al 1 0 (zo_get 12 18 (zo_al 1 0 (zo_get 12 15 (zo_ll 1 3 (zo_last (zo_al 1 0 (zo_get 12 19 (zo_al 1 0 (zo_get 12 15 (zo_ll 2 5 (zo_last (zo_al 1 0 (zo_dup (zo_get 12 15 (zo_ic 1 (1) (zo_iadd (zo_puti 12 15 (zo_al 1 0 (zo_get 12 15 (zo_ri rm E))))))))))))))))))))))))))))))))) 86 lv st g c s → pz_Z X 8 86 lv st g c s := (zs_aload_n hX dX10_change_86 rfl (zs_get hX (C := RX10) (T := TX10) (N := 37) rfl in_X10 (by decide) mw_6b61d357 dX10_change_87 (zs_aload_n hX dX10_change_90 rfl (zs_get hX (C := RX10) (T := TX10) (N := 37) rfl in_X10 (by decide) mw_bc59504b dX10_change_91 (zs_iload_n hX dX10_change_94 rfl (zs_iast hX dX10_change_95 (zs_aload_n hX dX10_change_96 rfl (zs_get hX (C := RX10) (T := TX10) (N := 37) rfl in_X10 (by decide) mw_6d2c644d dX10_change_97 (zs_aload_n hX dX10_change_100 rfl (zs_get hX (C := RX10) (T := TX10) (N := 37) rfl in_X10 (by decide) mw_bc59504b dX10_change_101 (zs_iload_n hX dX10_change_104 rfl (zs_iast hX dX10_change_105 (zs_aload_n hX dX10_change_106 rfl (zs_get hX (C := RX10) (T := TX10) (N := 37) rfl in_X10 (by decide) mw_d5614c62 dX10_change_107 (zs_aload_n hX dX10_change_110 rfl (zs_get hX (C := RX10) (T := TX10) (N := 37) rfl in_X10 (by decide) mw_bc59504b dX10_change_111 (zs_lload_n hX dX10_change_114 rfl (zs_last hX dX10_change_115 (zs_aload_n hX dX10_change_116 rfl (zs_get hX (C := RX10) (T := TX10) (N := 37) rfl in_X10 (by decide) mw_4846735b dX10_change_117 (zs_aload_n hX dX10_change_120 rfl (zs_get hX (C := RX10) (T := TX10) (N := 37) rfl in_X10 (by decide) mw_bc59504b dX10_change_121 (zs_lload hX dX10_change_124 (zs_last hX dX10_change_126 (zs_aload_n hX dX10_change_127 rfl (zs_dup hX dX10_change_128 (zs_get hX (C := RX10) (T := TX10) (N := 37) rfl in_X10 (by decide) mw_bc59504b dX10_change_129 (zs_iconst hX dX10_change_132 (by decide) (zs_iadd hX dX10_change_133 (zs_puti hX (C := RX10) (T := TX10) (N := 37) rfl in_X10 (by decide) mw_bc59504b tyX10 tyX10_ok nmX10 (by decide +kernel) rfl dX10_change_134 (zs_aload_n hX dX10_change_137 rfl (zs_get hX (C := RX10) (T := TX10) (N := 37) rfl in_X10 (by decide) mw_bc59504b dX10_change_138 (zs_ri hR dX10_change_141)))))))))))))))))))))))))))))))))
def my_none (l s : Int32) (nl : Nat) (cn : Nat → Nat) : Bool := !wi l.toInt64 0 (nI nl - 1).toInt64 || !wi s.toInt64 0 (nI (cn l.toNatClampNeg) - 1).toInt64
def my_b (x y : Int64) : Bool := !wi x 0 100000 || !wi y 0 20000
def rm_X10_change : Room := { frames := 2, cells := 0, slots := 0, locals := 46 }
abbrev gt_X10_change : Type := ((Int32 × Int32 × Int64 × Int64) × Nat × Nat × (Nat → Nat)) × mo_T
def pr_X10_change : gt_X10_change → List pz_V → pz_H → Prop := fun (((l, p, x, y), nl, nw, cn), (mo, M, I, Ai, Aj)) av g => av = [.inr (.inr (some (mo))), .inl (l), .inl (p), .inr (.inl (x)), .inr (.inl (y))] ∧ I 1 = nI nl ∧ nl ≤ 40 ∧ I 15 = nI nw ∧ nw ≤ 100 ∧ (∀ k, k < nl → Ai 3 k = nI (cn k) ∧ cn k ≤ 12) ∧ moS g mo M I Ai Aj
def po_X10_change : gt_X10_change → List pz_V → pz_H → Option pz_V → pz_H → Prop := fun (((l, p, x, y), nl, nw, cn), (mo, M, I, Ai, Aj)) _ g v g' => hg moL g g' ∧ (((my_none l p nl cn || (my_b x y || decide (nw = 100))) = true ∧ v = some (.inl 0) ∧ moS g' mo M (upd I 0 (rf3 (my_none l p nl cn) (my_b x y) (decide (nw = 100)))) Ai Aj) ∨ ((my_none l p nl cn || (my_b x y || decide (nw = 100))) = false ∧ v = some (.inl (nI (nw + 1))) ∧ moS g' mo M (upd (upd I 0 0) 15 (nI (nw + 1))) (seqU (seqU Ai 16 (upd (Ai 16) nw l)) 17 (upd (Ai 17) nw p)) (seqJ (seqJ Aj 18 (vp_updL (Aj 18) nw x)) 19 (vp_updL (Aj 19) nw y))))
set_option maxRecDepth 20000 in
set_option maxHeartbeats 8000000 in
theorem ct_X10_change {G : pz_Gx} (hOk : pz_OK G) (gh : gt_X10_change) : pz_M G yX10_change cX10_change 8 (some .int) rm_X10_change (pr_X10_change gh) (po_X10_change gh) := by
  obtain ⟨⟨⟨l, p, x, y⟩, nl, nw, cn⟩, mo, M, I, Ai, Aj⟩ := gh
  refine pz_ofZ (by decide) hOk.1 (Or.inr (Or.inl rfl)) ?_ ?_
  · rintro av g ⟨rfl, -⟩
    exact Nat.le_of_ble_eq_true rfl
  · rintro X hX hGX hrm - av g ⟨rfl, hnl, hnl40, hnw, hnw100, hcn, hm⟩ hR
    have h1 := hm.1
    have at78 : ∀ (a b c : Bool) (lv : pz_L), a = my_none l p nl cn → b = my_b x y → c = decide (nw = 100) → pz_all lv [(0, .inr (.inr (some (mo)))), (1, .inl (l)), (2, .inl (p)), (3, .inr (.inl (x))), (5, .inr (.inl (y)))] → pz_Z X 8 78 lv [.inl (b01 c), .inl (b01 b), .inl (b01 a), .inr (.inr (some (mo)))] g 0 0 := by
      intro a b c lv ha hb hc hlv
      refine pz_lsub hlv ?_
      refine bX10_change_78 hX hrm hGX hOk ((mo, a, b, c), M, I) (by decide) _ _ _ _ _ ⟨Nat.le_of_ble_eq_true rfl, ⟨mo, [.inl (b01 a), .inl (b01 b), .inl (b01 c)], [100], _, rfl, h1⟩, Nat.le_of_ble_eq_true rfl, Nat.le_of_ble_eq_true rfl, Nat.le_of_ble_eq_true rfl, ⟨rfl, h1⟩, ?_⟩
      rintro v g2 ⟨rfl, rfl⟩ z hz -
      cases hz
      obtain ⟨hm2, hS2⟩ := mo_f hm 0 (by decide) (rf3 a b c)
      refine ⟨fun q => ?_, fun q => ?_⟩
      · rw [b01_z] at q
        have hq := Bool.or_eq_false_iff.mp q
        have hq2 := Bool.or_eq_false_iff.mp hq.2
        rw [show rf3 a b c = 0 by rw [hq.1, hq2.1, hq2.2]; rfl] at hm2 hS2 ⊢
        have e0 : (mo_fs I M).set 0 (.inl 0) = mo_fs (upd I 0 0) M := mo_set 0 (by decide) 0
        rw [e0] at hm2 hS2 ⊢
        have hnl' : nw < 100 := by
          have := of_decide_eq_false (hc ▸ hq2.2)
          omega
        have hI15 : upd I 0 0 15 = nI nw := by rw [pk_un (by decide), hnw]
        have hni : vp_in (upd I 0 0 15) 100 := by rw [hI15]; exact ni_in hnl' (by omega)
        have hnc : (upd I 0 0 15).toNatClampNeg = nw := by rw [hI15]; exact ni_cl (by omega)
        obtain ⟨hm3, hS3⟩ := mo_i hm2 16 (by decide) (upd (Ai 16) nw l)
        obtain ⟨hm4, hS4⟩ := mo_i hm3 17 (by decide) (upd (Ai 17) nw p)
        obtain ⟨hm5, hS5⟩ := mo_j hm4 18 (by decide) (vp_updL (Aj 18) nw x)
        obtain ⟨hm6, hS6⟩ := mo_j hm5 19 (by decide) (vp_updL (Aj 19) nw y)
        obtain ⟨hm7, hS7⟩ := mo_f hm6 15 (by decide) (nI (nw + 1))
        refine bX10_change_86 hX hR _ _ _ _ _ ⟨_, _, _, hm2.1, rfl, _, _, _, hm2.1, rfl, _, _, _, hm2.2.1 16 (by decide), hni, ?_⟩
        rw [hnc]
        refine ⟨_, _, _, hm3.1, rfl, _, _, _, hm3.1, rfl, _, _, _, hm3.2.1 17 (by decide), hni, ?_⟩
        rw [hnc]
        refine ⟨_, _, _, hm4.1, rfl, _, _, _, hm4.1, rfl, _, _, _, hm4.2.2.2 18 (by decide), hni, ?_⟩
        rw [hnc]
        refine ⟨_, _, _, hm5.1, rfl, _, _, _, hm5.1, rfl, _, _, _, hm5.2.2.2 19 (by decide), hni, ?_⟩
        rw [hnc]
        refine ⟨rfl, _, _, _, hm6.1, rfl, _, _, hm6.1, Nat.le_of_ble_eq_true rfl, ?_⟩
        rw [hI15, nI_1]
        refine ⟨_, _, _, hm7.1, rfl, Nat.le_refl _, Nat.le_refl _, hg_tr hS2 (hg_tr hS3 (hg_tr hS4 (hg_tr hS5 (hg_tr hS6 hS7)))), Or.inr ⟨by rw [← ha, ← hb, ← hc]; exact q, ?_, hm7⟩⟩
        show some (Sum.inl (upd (upd I 0 0) 15 (nI (nw + 1)) 15)) = some (Sum.inl (nI (nw + 1)))
        rw [pk_us]
      · rw [b01_nz] at q
        exact bX10_change_84 hX hR _ _ _ _ _ ⟨Nat.le_refl _, Nat.le_refl _, hS2, Or.inl ⟨by rw [← ha, ← hb, ← hc]; exact q, rfl, by rw [← ha, ← hb, ← hc]; exact hm2⟩⟩
    have at64 : ∀ (a b : Bool), a = my_none l p nl cn → b = my_b x y → pz_Z X 8 64 [(7, .inl (b01 a)), (0, .inr (.inr (some (mo)))), (1, .inl (l)), (2, .inl (p)), (3, .inr (.inl (x))), (5, .inr (.inl (y)))] [.inl (b01 b), .inl (b01 a), .inr (.inr (some (mo)))] g 0 0 := by
      intro a b ha hb
      refine bX10_change_64 hX _ _ _ _ _ ⟨_, _, _, h1, rfl, ?_⟩
      rw [hnw]
      refine ⟨fun q => ?_, fun q => ?_⟩
      · refine bX10_change_77 hX _ _ _ _ _ ?_
        exact at78 a b false _ ha hb (decide_eq_false (fun e => q (by rw [e]; rfl))).symm ⟨rfl, rfl, rfl, rfl, rfl, trivial⟩
      · refine bX10_change_73 hX _ _ _ _ _ ?_
        exact at78 a b true _ ha hb (decide_eq_true (ni_inj (b := 100) (by omega) (by omega) q)).symm ⟨rfl, rfl, rfl, rfl, rfl, trivial⟩
    have at31 : ∀ (a : Bool), a = my_none l p nl cn → pz_Z X 8 31 [(0, .inr (.inr (some (mo)))), (1, .inl (l)), (2, .inl (p)), (3, .inr (.inl (x))), (5, .inr (.inl (y)))] [.inl (b01 a)] g 0 0 := by
      intro a ha
      have bad : my_b x y = true → pz_Z X 8 59 [(7, .inl (b01 a)), (0, .inr (.inr (some (mo)))), (1, .inl (l)), (2, .inl (p)), (3, .inr (.inl (x))), (5, .inr (.inl (y)))] [.inl (b01 a), .inr (.inr (some (mo)))] g 0 0 := by
        intro h
        refine bX10_change_59 hX _ _ _ _ _ ?_
        exact at64 a true ha h.symm
      refine bX10_change_31 hX _ _ _ _ _ ?_
      refine bX10_change_41 hX hrm hGX hOk (x, 0, 100000) (by decide) _ _ _ _ _ ⟨Nat.le_of_ble_eq_true rfl, Nat.le_of_ble_eq_true rfl, Nat.le_of_ble_eq_true rfl, Nat.le_of_ble_eq_true rfl, rfl, ?_⟩
      rintro v g2 ⟨rfl, rfl⟩ z hz -
      cases hz
      refine ⟨fun q => ?_, fun q => ?_⟩
      · rw [b01_z] at q
        exact bad (by unfold my_b; rw [q]; rfl)
      · rw [b01_nz] at q
        refine bX10_change_47 hX _ _ _ _ _ ?_
        refine bX10_change_53 hX hrm hGX hOk (y, 0, 20000) (by decide) _ _ _ _ _ ⟨Nat.le_of_ble_eq_true rfl, Nat.le_of_ble_eq_true rfl, Nat.le_of_ble_eq_true rfl, Nat.le_of_ble_eq_true rfl, rfl, ?_⟩
        rintro v g2 ⟨rfl, rfl⟩ z hz -
        cases hz
        refine ⟨fun q2 => ?_, fun q2 => ?_⟩
        · rw [b01_nz] at q2
          refine bX10_change_63 hX _ _ _ _ _ ?_
          exact at64 a false ha (by unfold my_b; rw [q, q2]; rfl)
        · rw [b01_z] at q2
          exact bad (by unfold my_b; rw [q2]; simp)
    have bad : my_none l p nl cn = true → pz_Z X 8 26 [(0, .inr (.inr (some (mo)))), (1, .inl (l)), (2, .inl (p)), (3, .inr (.inl (x))), (5, .inr (.inl (y)))] [] g 0 0 := by
      intro h
      refine bX10_change_26 hX _ _ _ _ _ ?_
      exact at31 true h.symm
    refine bX10_change_0 hX _ _ _ _ _ ?_
    refine bX10_change_2 hX hrm hGX hOk ((mo, l), M, I) (by decide) _ _ _ _ _ ⟨Nat.le_of_ble_eq_true rfl, ⟨mo, [.inl (l)], [100], _, rfl, h1⟩, Nat.le_of_ble_eq_true rfl, Nat.le_of_ble_eq_true rfl, Nat.le_of_ble_eq_true rfl, ⟨rfl, h1⟩, ?_⟩
    rintro v g2 ⟨rfl, rfl⟩ z hz -
    cases hz
    rw [hnl]
    refine ⟨fun q => ?_, fun q => ?_⟩
    · rw [b01_z] at q
      exact bad (by unfold my_none; rw [q]; rfl)
    · rw [b01_nz] at q
      obtain ⟨k, hk, rfl⟩ : ∃ q, q < nl ∧ l = nI q := wi_nK (by omega) q
      obtain ⟨hc3, hc12⟩ := hcn k hk
      have hkc : (nI k).toNatClampNeg = k := ni_cl (by omega)
      have hki : vp_in (nI k) 40 := ni_in (by omega) (by omega)
      have m3 : g2 (M 3) = some ([101, 3], ar_i 40 (Ai 3)) := hm.2.1 3 (by decide)
      refine bX10_change_8 hX _ _ _ _ _ ⟨_, _, _, h1, rfl, _, _, _, m3, hki, ?_⟩
      rw [hkc, hc3]
      refine bX10_change_20 hX hrm hGX hOk (p.toInt64, 0, (nI (cn k) - 1).toInt64) (by decide) _ _ _ _ _ ⟨Nat.le_of_ble_eq_true rfl, Nat.le_of_ble_eq_true rfl, Nat.le_of_ble_eq_true rfl, Nat.le_of_ble_eq_true rfl, rfl, ?_⟩
      rintro v g2 ⟨rfl, rfl⟩ z hz -
      cases hz
      refine ⟨fun q2 => ?_, fun q2 => ?_⟩
      · rw [b01_nz] at q2
        refine bX10_change_30 hX _ _ _ _ _ ?_
        exact at31 false (by unfold my_none; rw [q, hkc, q2]; rfl)
      · rw [b01_z] at q2
        exact bad (by unfold my_none; rw [hkc, q2]; simp)
