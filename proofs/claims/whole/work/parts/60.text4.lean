/-! LineTimes$Text: parseItem, parse -/
set_option maxRecDepth 20000 in
theorem bX6_parseItem_0 {X : pz_C} (hX : pz_X X cX6_parseItem 1 RX6) : ∀ lv st g c s, (zo_al 1 0 (zo_get 8 4 (zo_ic 1 (-1) (zo_ic_eq 9 (pz_Z X 1))))) 0 lv st g c s → pz_Z X 1 0 lv st g c s := (zs_aload_n hX dX6_parseItem_0 rfl (zs_get hX (C := RX6) (T := TX6) (N := 6) rfl in_X6 (by decide) mw_f486a86b dX6_parseItem_1 (zs_iconst hX dX6_parseItem_4 (by decide) (zs_ic_eq hX dX6_parseItem_5 (by decide) (fun _ _ _ _ _ _ h => h)))))
set_option maxRecDepth 20000 in
theorem bX6_parseItem_8 {X : pz_C} {rm : Room} {E : Option pz_V → pz_H → Prop} (hX : pz_X X cX6_parseItem 1 RX6) (hR : pz_Rt X cX6_parseItem 1 none rm E) : ∀ lv st g c s, (zo_rv rm E) 8 lv st g c s → pz_Z X 1 8 lv st g c s := (zs_rv hR dX6_parseItem_8)
set_option maxRecDepth 20000 in
theorem bX6_parseItem_9 {X : pz_C} (hX : pz_X X cX6_parseItem 1 RX6) : ∀ lv st g c s, (zo_al 1 0 (zo_ic 2 (76) (pz_Z X 1))) 9 lv st g c s → pz_Z X 1 9 lv st g c s := (zs_aload_n hX dX6_parseItem_9 rfl (zs_bipush hX dX6_parseItem_10 (by decide) (fun _ _ _ _ _ h => h)))
set_option maxRecDepth 20000 in
theorem bX6_parseItem_12 {X : pz_C} {G : pz_Gx} {sa md mi : Nat} {rm : Room} (hX : pz_X X cX6_parseItem 1 RX6) (hrm : pz_rm X = rm) (hGX : pz_GX X G) (hOk : pz_O2 G sa md mi) (gh : gt_X6_stands) (hr_X6_stands : rm_X6_stands.frames + 1 ≤ rm.frames ∧ 8 + (2 + 11) + rm_X6_stands.locals ≤ rm.locals) : ∀ lv st g c s, (zo_cV rm 8 1 3 rm_X6_stands.cells rm_X6_stands.slots (pr_X6_stands gh) (po_X6_stands gh) (zo_kz (zo_if_eq 51 (pz_Z X 1)))) 12 lv st g c s → pz_Z X 1 12 lv st g c s := by
  subst hrm
  exact (zs_csV hX hGX (C := RX6) (T := TX6) (N := 6) rfl (ct_X6_stands hOk.1 gh) mw_fb379dcc mw_69bbb7ad mw_e772b8d6 mw_59af5b5a mw_b04f04b9 (by decide +kernel) hr_X6_stands dX6_parseItem_12 (zs_kz (zs_if_eq hX dX6_parseItem_15 (by decide) (fun _ _ _ _ _ _ h => h))))
set_option maxRecDepth 20000 in
theorem bX6_parseItem_18 {X : pz_C} (hX : pz_X X cX6_parseItem 1 RX6) : ∀ lv st g c s, (zo_al 1 0 (zo_get 8 0 (pz_Z X 1))) 18 lv st g c s → pz_Z X 1 18 lv st g c s := (zs_aload_n hX dX6_parseItem_18 rfl (zs_get hX (C := RX6) (T := TX6) (N := 6) rfl in_X6 (by decide) mw_aa01b0a6 dX6_parseItem_19 (fun _ _ _ _ _ h => h)))
set_option maxRecDepth 20000 in
theorem bX6_parseItem_22 {X : pz_C} {G : pz_Gx} {sa md mi : Nat} {rm : Room} (hX : pz_X X cX6_parseItem 1 RX6) (hrm : pz_rm X = rm) (hGX : pz_GX X G) (hOk : pz_O2 G sa md mi) (gh : gt_Jx4a65c_size_8abf5) (hr_Jx4a65c_size_8abf5 : rm_Jx4a65c_size_8abf5.frames + 1 ≤ rm.frames ∧ 8 + (1 + 11) + rm_Jx4a65c_size_8abf5.locals ≤ rm.locals) : ∀ lv st g c s, (zo_cV rm 1 0 5 rm_Jx4a65c_size_8abf5.cells rm_Jx4a65c_size_8abf5.slots (pr_Jx4a65c_size_8abf5 gh) (po_Jx4a65c_size_8abf5 gh) (zo_ki (zo_al 1 0 (zo_get 8 5 (zo_ic_ge 51 (pz_Z X 1)))))) 22 lv st g c s → pz_Z X 1 22 lv st g c s := by
  subst hrm
  exact (zs_csF hX hGX (C := RJx4a65c) (T := TJx4a65c) (N := 3) rfl (ct_Jx4a65c_size_8abf5 hOk.1 gh) (hOk.1.2.1) mw_1dca36d4 mw_e0c83bb7 mw_8c7bf081 mw_dd3bf01c mw_d1eac4b0 (by decide +kernel) hr_Jx4a65c_size_8abf5 dX6_parseItem_22 (zs_ki (zs_aload_n hX dX6_parseItem_27 rfl (zs_get hX (C := RX6) (T := TX6) (N := 6) rfl in_X6 (by decide) mw_de20c77d dX6_parseItem_28 (zs_ic_ge hX dX6_parseItem_31 (by decide) (fun _ _ _ _ _ _ h => h))))))
set_option maxRecDepth 20000 in
theorem bX6_parseItem_34 {X : pz_C} (hX : pz_X X cX6_parseItem 1 RX6) : ∀ lv st g c s, (zo_al 1 0 (zo_dup (zo_get 8 3 (zo_ic 1 (1) (zo_iadd (zo_puti 8 3 (zo_al 1 0 (pz_Z X 1)))))))) 34 lv st g c s → pz_Z X 1 34 lv st g c s := (zs_aload_n hX dX6_parseItem_34 rfl (zs_dup hX dX6_parseItem_35 (zs_get hX (C := RX6) (T := TX6) (N := 6) rfl in_X6 (by decide) mw_efbf8de0 dX6_parseItem_36 (zs_iconst hX dX6_parseItem_39 (by decide) (zs_iadd hX dX6_parseItem_40 (zs_puti hX (C := RX6) (T := TX6) (N := 6) rfl in_X6 (by decide) mw_efbf8de0 tyX6 tyX6_ok nmX6 (by decide +kernel) rfl dX6_parseItem_41 (zs_aload_n hX dX6_parseItem_44 rfl (fun _ _ _ _ _ h => h))))))))
set_option maxRecDepth 20000 in
theorem bX6_parseItem_45 {X : pz_C} {G : pz_Gx} {sa md mi : Nat} {rm : Room} (hX : pz_X X cX6_parseItem 1 RX6) (hrm : pz_rm X = rm) (hGX : pz_GX X G) (hOk : pz_O2 G sa md mi) (gh : gt_X6_parseLine) (hr_X6_parseLine : rm_X6_parseLine.frames + 1 ≤ rm.frames ∧ 8 + (2 + 11) + rm_X6_parseLine.locals ≤ rm.locals) : ∀ lv st g c s, (zo_cV rm 8 0 3 rm_X6_parseLine.cells rm_X6_parseLine.slots (pr_X6_parseLine sa gh) (po_X6_parseLine sa gh) (zo_kv (zo_goto 115 (pz_Z X 1)))) 45 lv st g c s → pz_Z X 1 45 lv st g c s := by
  subst hrm
  exact (zs_csV hX hGX (C := RX6) (T := TX6) (N := 6) rfl (ct_X6_parseLine hOk gh) mw_e1c1cc34 mw_e6d95e78 mw_99b0a707 mw_59af5b5a mw_f4e87a71 (by decide +kernel) hr_X6_parseLine dX6_parseItem_45 (zs_kv (zs_goto hX dX6_parseItem_48 (by decide) (fun _ _ _ _ _ _ h => h))))
set_option maxRecDepth 20000 in
theorem bX6_parseItem_51 {X : pz_C} (hX : pz_X X cX6_parseItem 1 RX6) : ∀ lv st g c s, (zo_al 1 0 (zo_ic 2 (83) (pz_Z X 1))) 51 lv st g c s → pz_Z X 1 51 lv st g c s := (zs_aload_n hX dX6_parseItem_51 rfl (zs_bipush hX dX6_parseItem_52 (by decide) (fun _ _ _ _ _ h => h)))
set_option maxRecDepth 20000 in
theorem bX6_parseItem_54 {X : pz_C} {G : pz_Gx} {sa md mi : Nat} {rm : Room} (hX : pz_X X cX6_parseItem 1 RX6) (hrm : pz_rm X = rm) (hGX : pz_GX X G) (hOk : pz_O2 G sa md mi) (gh : gt_X6_stands) (hr_X6_stands : rm_X6_stands.frames + 1 ≤ rm.frames ∧ 8 + (2 + 11) + rm_X6_stands.locals ≤ rm.locals) : ∀ lv st g c s, (zo_cV rm 8 1 3 rm_X6_stands.cells rm_X6_stands.slots (pr_X6_stands gh) (po_X6_stands gh) (zo_kz (zo_if_eq 107 (pz_Z X 1)))) 54 lv st g c s → pz_Z X 1 54 lv st g c s := by
  subst hrm
  exact (zs_csV hX hGX (C := RX6) (T := TX6) (N := 6) rfl (ct_X6_stands hOk.1 gh) mw_fb379dcc mw_69bbb7ad mw_e772b8d6 mw_59af5b5a mw_b04f04b9 (by decide +kernel) hr_X6_stands dX6_parseItem_54 (zs_kz (zs_if_eq hX dX6_parseItem_57 (by decide) (fun _ _ _ _ _ _ h => h))))
set_option maxRecDepth 20000 in
theorem bX6_parseItem_60 {X : pz_C} (hX : pz_X X cX6_parseItem 1 RX6) : ∀ lv st g c s, (zo_al 1 0 (pz_Z X 1)) 60 lv st g c s → pz_Z X 1 60 lv st g c s := (zs_aload_n hX dX6_parseItem_60 rfl (fun _ _ _ _ _ h => h))
set_option maxRecDepth 20000 in
theorem bX6_parseItem_61 {X : pz_C} {G : pz_Gx} {sa md mi : Nat} {rm : Room} (hX : pz_X X cX6_parseItem 1 RX6) (hrm : pz_rm X = rm) (hGX : pz_GX X G) (hOk : pz_O2 G sa md mi) (gh : gt_X6_lastHasRoom) (hr_X6_lastHasRoom : rm_X6_lastHasRoom.frames + 1 ≤ rm.frames ∧ 8 + (1 + 11) + rm_X6_lastHasRoom.locals ≤ rm.locals) : ∀ lv st g c s, (zo_cV rm 8 0 3 rm_X6_lastHasRoom.cells rm_X6_lastHasRoom.slots (pr_X6_lastHasRoom gh) (po_X6_lastHasRoom gh) (zo_kz (zo_if_eq 107 (pz_Z X 1)))) 61 lv st g c s → pz_Z X 1 61 lv st g c s := by
  subst hrm
  exact (zs_csV hX hGX (C := RX6) (T := TX6) (N := 6) rfl (ct_X6_lastHasRoom hOk.1 gh) mw_ada07ab2 mw_917004fb mw_4aa80949 mw_59af5b5a mw_cc3dd344 (by decide +kernel) hr_X6_lastHasRoom dX6_parseItem_61 (zs_kz (zs_if_eq hX dX6_parseItem_64 (by decide) (fun _ _ _ _ _ _ h => h))))
set_option maxRecDepth 20000 in
theorem bX6_parseItem_67 {X : pz_C} (hX : pz_X X cX6_parseItem 1 RX6) : ∀ lv st g c s, (zo_al 1 0 (zo_dup (zo_get 8 3 (zo_ic 1 (1) (zo_iadd (zo_puti 8 3 (zo_al 1 0 (zo_al 1 0 (zo_get 8 0 (zo_al 1 0 (zo_get 8 0 (pz_Z X 1)))))))))))) 67 lv st g c s → pz_Z X 1 67 lv st g c s := (zs_aload_n hX dX6_parseItem_67 rfl (zs_dup hX dX6_parseItem_68 (zs_get hX (C := RX6) (T := TX6) (N := 6) rfl in_X6 (by decide) mw_efbf8de0 dX6_parseItem_69 (zs_iconst hX dX6_parseItem_72 (by decide) (zs_iadd hX dX6_parseItem_73 (zs_puti hX (C := RX6) (T := TX6) (N := 6) rfl in_X6 (by decide) mw_efbf8de0 tyX6 tyX6_ok nmX6 (by decide +kernel) rfl dX6_parseItem_74 (zs_aload_n hX dX6_parseItem_77 rfl (zs_aload_n hX dX6_parseItem_78 rfl (zs_get hX (C := RX6) (T := TX6) (N := 6) rfl in_X6 (by decide) mw_aa01b0a6 dX6_parseItem_79 (zs_aload_n hX dX6_parseItem_82 rfl (zs_get hX (C := RX6) (T := TX6) (N := 6) rfl in_X6 (by decide) mw_aa01b0a6 dX6_parseItem_83 (fun _ _ _ _ _ h => h))))))))))))
set_option maxRecDepth 20000 in
theorem bX6_parseItem_86 {X : pz_C} {G : pz_Gx} {sa md mi : Nat} {rm : Room} (hX : pz_X X cX6_parseItem 1 RX6) (hrm : pz_rm X = rm) (hGX : pz_GX X G) (hOk : pz_O2 G sa md mi) (gh : gt_Jx4a65c_size_8abf5) (hr_Jx4a65c_size_8abf5 : rm_Jx4a65c_size_8abf5.frames + 1 ≤ rm.frames ∧ 8 + (1 + 11) + rm_Jx4a65c_size_8abf5.locals ≤ rm.locals) : ∀ lv st g c s, (zo_cV rm 1 0 5 rm_Jx4a65c_size_8abf5.cells rm_Jx4a65c_size_8abf5.slots (pr_Jx4a65c_size_8abf5 gh) (po_Jx4a65c_size_8abf5 gh) (zo_ki (zo_ic 1 (1) (zo_isub (pz_Z X 1))))) 86 lv st g c s → pz_Z X 1 86 lv st g c s := by
  subst hrm
  exact (zs_csF hX hGX (C := RJx4a65c) (T := TJx4a65c) (N := 3) rfl (ct_Jx4a65c_size_8abf5 hOk.1 gh) (hOk.1.2.1) mw_1dca36d4 mw_e0c83bb7 mw_8c7bf081 mw_dd3bf01c mw_d1eac4b0 (by decide +kernel) hr_Jx4a65c_size_8abf5 dX6_parseItem_86 (zs_ki (zs_iconst hX dX6_parseItem_91 (by decide) (zs_isub hX dX6_parseItem_92 (fun _ _ _ _ _ h => h)))))
set_option maxRecDepth 20000 in
theorem bX6_parseItem_93 {X : pz_C} {G : pz_Gx} {sa md mi : Nat} {rm : Room} (hX : pz_X X cX6_parseItem 1 RX6) (hrm : pz_rm X = rm) (hGX : pz_GX X G) (hOk : pz_O2 G sa md mi) (gh : gt_Jx4a65c_get_915e3) (hr_Jx4a65c_get_915e3 : rm_Jx4a65c_get_915e3.frames + 1 ≤ rm.frames ∧ 8 + (2 + 11) + rm_Jx4a65c_get_915e3.locals ≤ rm.locals) : ∀ lv st g c s, (zo_cV rm 1 1 5 rm_Jx4a65c_get_915e3.cells rm_Jx4a65c_get_915e3.slots (pr_Jx4a65c_get_915e3 gh) (po_Jx4a65c_get_915e3 gh) (zo_kr (zo_cast1 5 (pz_Z X 1)))) 93 lv st g c s → pz_Z X 1 93 lv st g c s := by
  subst hrm
  exact (zs_csF hX hGX (C := RJx4a65c) (T := TJx4a65c) (N := 3) rfl (ct_Jx4a65c_get_915e3 hOk.1 gh) (hOk.1.2.2.1) mw_473bde84 mw_50a82afc mw_e81a0f1b mw_dd3bf01c mw_817361af (by decide +kernel) hr_Jx4a65c_get_915e3 dX6_parseItem_93 (zs_kr (by first | exact Or.inl ⟨_, rfl⟩ | exact Or.inr ⟨_, rfl⟩) (zs_cast1 hX (C := RX3) (T := TX3) (N := 11) rfl mw_eccefa00 dX6_parseItem_98 (fun _ _ _ _ _ h => h))))
set_option maxRecDepth 20000 in
theorem bX6_parseItem_101 {X : pz_C} {G : pz_Gx} {sa md mi : Nat} {rm : Room} (hX : pz_X X cX6_parseItem 1 RX6) (hrm : pz_rm X = rm) (hGX : pz_GX X G) (hOk : pz_O2 G sa md mi) (gh : gt_X6_parseStop) (hr_X6_parseStop : rm_X6_parseStop.frames + 1 ≤ rm.frames ∧ 8 + (5 + 11) + rm_X6_parseStop.locals ≤ rm.locals) : ∀ lv st g c s, (zo_cV rm 8 1 3 rm_X6_parseStop.cells rm_X6_parseStop.slots (pr_X6_parseStop gh) (po_X6_parseStop gh) (zo_kv (zo_goto 115 (pz_Z X 1)))) 101 lv st g c s → pz_Z X 1 101 lv st g c s := by
  subst hrm
  exact (zs_csV hX hGX (C := RX6) (T := TX6) (N := 6) rfl (ct_X6_parseStop hOk.1 gh) mw_7ceed14e mw_ae41c612 mw_32fdaecf mw_59af5b5a mw_1b2c8c3d (by decide +kernel) hr_X6_parseStop dX6_parseItem_101 (zs_kv (zs_goto hX dX6_parseItem_104 (by decide) (fun _ _ _ _ _ _ h => h))))
set_option maxRecDepth 20000 in
theorem bX6_parseItem_107 {X : pz_C} (hX : pz_X X cX6_parseItem 1 RX6) : ∀ lv st g c s, (zo_al 1 0 (zo_al 1 0 (zo_get 8 3 (zo_puti 8 4 (pz_Z X 1))))) 107 lv st g c s → pz_Z X 1 107 lv st g c s := (zs_aload_n hX dX6_parseItem_107 rfl (zs_aload_n hX dX6_parseItem_108 rfl (zs_get hX (C := RX6) (T := TX6) (N := 6) rfl in_X6 (by decide) mw_efbf8de0 dX6_parseItem_109 (zs_puti hX (C := RX6) (T := TX6) (N := 6) rfl in_X6 (by decide) mw_f486a86b tyX6 tyX6_ok nmX6 (by decide +kernel) rfl dX6_parseItem_112 (fun _ _ _ _ _ h => h)))))
set_option maxRecDepth 20000 in
theorem bX6_parseItem_115 {X : pz_C} {rm : Room} {E : Option pz_V → pz_H → Prop} (hX : pz_X X cX6_parseItem 1 RX6) (hR : pz_Rt X cX6_parseItem 1 none rm E) : ∀ lv st g c s, (zo_rv rm E) 115 lv st g c s → pz_Z X 1 115 lv st g c s := (zs_rv hR dX6_parseItem_115)
def rm_X6_parseItem : Room := { frames := 8, cells := 35, slots := 471, locals := 192 }
abbrev gt_X6_parseItem : Type := Nat × (Nat × Nat × Nat × Nat) × (Int32 × Nat) × (Nat → Int32) × (Nat × (Nat → lr_T) × (Nat → cl_D)) × Nat × Nat
def pr_X6_parseItem (sa : Nat) : gt_X6_parseItem → List pz_V → pz_H → Prop := fun (tx, (cm, sg, len, at'), (fa, room), cf, (m, K, D), U0, U) av g => av = [.inr (.inr (some (tx)))] ∧ room ≤ 40 ∧ tpS sa g (tx, (cm, sg, len, at'), (fa, nI room), cf, (m, K, D), U0, U)
def po_X6_parseItem (sa : Nat) : gt_X6_parseItem → List pz_V → pz_H → Option pz_V → pz_H → Prop := fun (tx, (cm, sg, len, at'), (fa, room), cf, (m, K, D), U0, U) _ g v g' => v = none ∧ tpP sa g g' (tp_i len cf room ((at', fa), m, D)) (tx, (cm, sg, len, at'), (fa, nI room), cf, (m, K, D), U0, U)
set_option maxRecDepth 20000 in
set_option maxHeartbeats 8000000 in
theorem ct_X6_parseItem {G : pz_Gx} {sa md mi : Nat} (hOk : pz_O2 G sa md mi) (gh : gt_X6_parseItem) : pz_M G yX6_parseItem cX6_parseItem 1 none rm_X6_parseItem (pr_X6_parseItem sa gh) (po_X6_parseItem sa gh) := by
  obtain ⟨tx, ⟨cm, sg, len, at'⟩, ⟨fa, room⟩, cf, ⟨m, K, D⟩, U0, U⟩ := gh
  refine pz_ofZ (by decide) hOk.1.1 (Or.inl rfl) ?_ ?_
  · rintro av g ⟨rfl, -⟩
    exact Nat.le_of_ble_eq_true rfl
  · rintro X hX hGX hrm - av g ⟨rfl, hro, hall⟩ hR
    obtain ⟨hts, hlen, hat, hU, hcm⟩ := id hall
    obtain ⟨⟨h41, mc, ed, cap, o, hla, hc⟩, hK2, hK3⟩ := id hcm
    have ei : tp_i len cf room ((at', fa), m, D) = if fa = -1 then (if tx_st len cf at' 76 = true ∧ m < room then tp_L len cf ((at' + 1, fa), m, D) else if tx_st len cf at' 83 = true ∧ m ≠ 0 ∧ (D (m - 1)).2.1 < 12 then tp_S len cf ((at' + 1, fa), m, D) else ((at', nI at'), m, D)) else ((at', fa), m, D) := rfl
    -- the end
    have fin : ∀ (g2 : pz_H) (cc ss : Nat), cc ≤ 35 → ss ≤ 471 → tpP sa g g2 (tp_i len cf room ((at', fa), m, D)) (tx, (cm, sg, len, at'), (fa, nI room), cf, (m, K, D), U0, U) → pz_Z X 1 115 [(0, .inr (.inr (some (tx))))] [] g2 cc ss := fun g2 cc ss h1 h2 h3 => bX6_parseItem_115 hX hR _ _ _ _ _ ⟨h1, h2, rfl, h3⟩
    -- one sign on
    have hu1 := hg_up (S := fun b => b = [4]) (v := some ([4], .inr (8, [.inr (.inr (some (cm))), .inl (nI len), .inr (.inr (some (sg))), .inl (nI (at' + 1)), .inl fa, .inl (nI room)]))) hg_rf hts.1 rfl
    have on : at' < len → tpS sa (va_up g tx (some ([4], .inr (8, [.inr (.inr (some (cm))), .inl (nI len), .inr (.inr (some (sg))), .inl (nI (at' + 1)), .inl fa, .inl (nI room)])))) (tx, (cm, sg, len, at' + 1), (fa, nI room), cf, (m, K, D), U0, U) := fun hlt => ⟨⟨up_at, up_ne hts.2 hts.1 (by decide)⟩, hlen, hlt, hU, cmS_mono hu1 (fun b hb => Or.inl hb) hcm⟩
    -- nothing fits
    have bad : fa = -1 → ¬ (tx_st len cf at' 76 = true ∧ m < room) → ¬ (tx_st len cf at' 83 = true ∧ m ≠ 0 ∧ (D (m - 1)).2.1 < 12) → pz_Z X 1 107 [(0, .inr (.inr (some (tx))))] [] g 0 0 := by
      intro hf h1 h2
      refine bX6_parseItem_107 hX _ _ _ _ _ ⟨_, _, _, hts.1, rfl, _, _, hts.1, Nat.le_of_ble_eq_true rfl, ?_⟩
      refine fin _ 0 0 (Nat.zero_le _) (Nat.zero_le _) ?_
      rw [ei, if_pos hf, if_neg h1, if_neg h2]
      have hu := hg_up (S := fun b => b = [4]) (v := some ([4], .inr (8, [.inr (.inr (some (cm))), .inl (nI len), .inr (.inr (some (sg))), .inl (nI at'), .inl (nI at'), .inl (nI room)]))) hg_rf hts.1 rfl
      exact ⟨hg_mono hu (fun b hb => Or.inl hb), K, U, Nat.le_refl _, ⟨up_at, up_ne hts.2 hts.1 (by decide)⟩, hlen, hat, hU, cmS_mono hu (fun b hb => Or.inl hb) hcm⟩
    -- a stop
    have stop : fa = -1 → ¬ (tx_st len cf at' 76 = true ∧ m < room) → pz_Z X 1 51 [(0, .inr (.inr (some (tx))))] [] g 0 0 := by
      intro hf h1
      refine bX6_parseItem_51 hX _ _ _ _ _ ?_
      refine bX6_parseItem_54 hX hrm hGX hOk ((tx, 83), (cm, sg, len, at'), (fa, nI room), cf) (by decide) _ _ _ _ _ ⟨Nat.le_of_ble_eq_true rfl, ⟨tx, [.inl (83)], [4], _, rfl, hts.1⟩, Nat.le_of_ble_eq_true rfl, Nat.le_of_ble_eq_true rfl, Nat.le_of_ble_eq_true rfl, ⟨rfl, hlen, by omega, hts⟩, ?_⟩
      rintro v g2 ⟨rfl, rfl⟩ z hz -
      cases hz
      refine ⟨fun q => ?_, fun q => ?_⟩
      · exact bad hf h1 (fun e => by rw [if_pos e.1] at q; exact absurd q (by decide))
      · have hS : tx_st len cf at' 83 = true := Classical.byContradiction fun e => q (if_neg e)
        refine bX6_parseItem_60 hX _ _ _ _ _ ?_
        refine bX6_parseItem_61 hX hrm hGX hOk (tx, (cm, sg, len, at'), (fa, nI room), cf, (sa, m), (fun i => lr_h (K i)), (D (m - 1)).2.1) (by decide) _ _ _ _ _ ⟨Nat.le_of_ble_eq_true rfl, ⟨tx, [], [4], _, rfl, hts.1⟩, Nat.le_of_ble_eq_true rfl, Nat.le_of_ble_eq_true rfl, Nat.le_of_ble_eq_true rfl, ⟨rfl, hts, hcm.1, fun hm0 => ?_⟩, ?_⟩
        · obtain ⟨a1, a2, a3, a4, a5⟩ := hK2 (m - 1) (by omega)
          have hn := a1.1
          rw [← a3.2.1]
          exact ⟨hn, _, _, a1.2.1.1, rfl⟩
        rintro v g2' ⟨rfl, rfl⟩ z hz -
        cases hz
        refine ⟨fun q2 => ?_, fun q2 => ?_⟩
        · exact bad hf h1 (fun e => by rw [if_pos e.2] at q2; exact absurd q2 (by decide))
        · have hR2 : m ≠ 0 ∧ (D (m - 1)).2.1 < 12 := Classical.byContradiction fun e => q2 (if_neg e)
          refine bX6_parseItem_67 hX _ _ _ _ _ ⟨rfl, _, _, _, hts.1, rfl, _, _, hts.1, Nat.le_of_ble_eq_true rfl, _, _, _, up_at, rfl, _, _, _, up_at, rfl, ?_⟩
          rw [nI_1]
          have hon := on (tx_st_lt hS)
          have hu1' := hu1
          obtain ⟨hts1, hlen1, hat1, hU1, hcm1⟩ := id hon
          obtain ⟨⟨h41', mc', ed', cap', o', hla', hc'⟩, hK2', hK3'⟩ := id hcm1
          refine bX6_parseItem_86 hX hrm hGX hOk (cm, nI m) (by decide) _ _ _ _ _ ⟨Nat.le_of_ble_eq_true rfl, ⟨cm, [], [7], _, rfl, hla'⟩, Nat.le_of_ble_eq_true rfl, Nat.le_of_ble_eq_true rfl, Nat.le_of_ble_eq_true rfl, ⟨rfl, _, _, hla', rfl⟩, ?_⟩
          rintro v g2 ⟨rfl, rfl⟩ z hz
          cases hz
          show pz_Z X 1 93 [(0, .inr (.inr (some (tx))))] [.inl (nI m - 1), .inr (.inr (some (cm))), .inr (.inr (some (tx)))] _ 0 0
          rw [ni_pred (by omega)]
          refine bX6_parseItem_93 hX hrm hGX hOk (cm, m - 1, [7], [8], m, fun i => lr_h (K i)) (by decide) _ _ _ _ _ ⟨Nat.le_of_ble_eq_true rfl, ⟨cm, [.inl (nI (m - 1))], [7], _, rfl, hla'⟩, Nat.le_of_ble_eq_true rfl, Nat.le_of_ble_eq_true rfl, Nat.le_of_ble_eq_true rfl, ⟨rfl, by omega, lsE_S hcm1.1⟩, ?_⟩
          rintro v g2 ⟨rfl, rfl⟩ z hz
          cases hz
          refine ⟨_, _, (hK2' (m - 1) (by omega)).1.2.1.1, ?_⟩
          refine bX6_parseItem_101 hX hrm hGX hOk (tx, (cm, sg, len, at' + 1), (fa, nI room), cf, (m, K, D), U0, U, sa) (by decide) _ _ _ _ _ ⟨Nat.le_of_ble_eq_true rfl, ⟨tx, [.inr (.inr (some (lr_h (K (m - 1)))))], [4], _, rfl, hts1.1⟩, Nat.le_of_ble_eq_true rfl, Nat.le_of_ble_eq_true rfl, Nat.le_of_ble_eq_true rfl, ⟨rfl, by omega, hR2.2, hon⟩, ?_⟩
          rintro v g3 ⟨rfl, h3, K', U', hU', h4⟩ -
          refine fin g3 _ _ (Nat.le_of_ble_eq_true rfl) (Nat.le_of_ble_eq_true rfl) ?_
          rw [ei, if_pos hf, if_neg h1, if_pos ⟨hS, hR2⟩]
          exact ⟨hg_tr (hg_mono hu1' (fun b hb => Or.inl hb)) h3, K', U', hU', h4⟩
    refine bX6_parseItem_0 hX _ _ _ _ _ ⟨_, _, _, hts.1, rfl, fun q => ?_, fun q => ?_⟩
    · have hf : fa = -1 := q
      refine bX6_parseItem_9 hX _ _ _ _ _ ?_
      refine bX6_parseItem_12 hX hrm hGX hOk ((tx, 76), (cm, sg, len, at'), (fa, nI room), cf) (by decide) _ _ _ _ _ ⟨Nat.le_of_ble_eq_true rfl, ⟨tx, [.inl (76)], [4], _, rfl, hts.1⟩, Nat.le_of_ble_eq_true rfl, Nat.le_of_ble_eq_true rfl, Nat.le_of_ble_eq_true rfl, ⟨rfl, hlen, by omega, hts⟩, ?_⟩
      rintro v g2 ⟨rfl, rfl⟩ z hz -
      cases hz
      refine ⟨fun q => ?_, fun q => ?_⟩
      · exact stop hf (fun e => by rw [if_pos e.1] at q; exact absurd q (by decide))
      · have hL : tx_st len cf at' 76 = true := Classical.byContradiction fun e => q (if_neg e)
        refine bX6_parseItem_18 hX _ _ _ _ _ ⟨_, _, _, hts.1, rfl, ?_⟩
        refine bX6_parseItem_22 hX hrm hGX hOk (cm, nI m) (by decide) _ _ _ _ _ ⟨Nat.le_of_ble_eq_true rfl, ⟨cm, [], [7], _, rfl, hla⟩, Nat.le_of_ble_eq_true rfl, Nat.le_of_ble_eq_true rfl, Nat.le_of_ble_eq_true rfl, ⟨rfl, _, _, hla, rfl⟩, ?_⟩
        rintro v g2' ⟨rfl, rfl⟩ z hz
        cases hz
        refine ⟨_, _, _, hts.1, rfl, fun q2 => ?_, fun q2 => ?_⟩
        · exact stop hf (fun e => by have := (ni_le (by omega) (by omega)).mp q2; omega)
        · have hmr : m < room := by
            refine Classical.byContradiction fun e => q2 ((ni_le (by omega) (by omega)).mpr (by omega))
          refine bX6_parseItem_34 hX _ _ _ _ _ ⟨rfl, _, _, _, hts.1, rfl, _, _, hts.1, Nat.le_of_ble_eq_true rfl, ?_⟩
          rw [nI_1]
          have hon := on (tx_st_lt hL)
          have hu1' := hu1
          refine bX6_parseItem_45 hX hrm hGX hOk (tx, (cm, sg, len, at' + 1), (fa, nI room), cf, (m, K, D), U0, U) (by decide) _ _ _ _ _ ⟨Nat.le_of_ble_eq_true rfl, ⟨tx, [], [4], _, rfl, hon.1.1⟩, Nat.le_of_ble_eq_true rfl, Nat.le_of_ble_eq_true rfl, Nat.le_of_ble_eq_true rfl, ⟨rfl, by omega, hon⟩, ?_⟩
          rintro v g3 ⟨rfl, h3, K', U', hU', h4⟩ -
          refine fin g3 _ _ (Nat.le_of_ble_eq_true rfl) (Nat.le_of_ble_eq_true rfl) ?_
          rw [ei, if_pos hf, if_pos ⟨hL, hmr⟩]
          exact ⟨hg_tr (hg_mono hu1' (fun b hb => Or.inl hb)) h3, K', U', hU', h4⟩
    · refine bX6_parseItem_8 hX hR _ _ _ _ _ ⟨Nat.le_of_ble_eq_true rfl, Nat.le_of_ble_eq_true rfl, rfl, ?_⟩
      rw [ei, if_neg q]
      exact ⟨hg_rf, K, U, Nat.le_refl _, hall⟩
set_option maxRecDepth 20000 in
theorem bX6_parse_0 {X : pz_C} (hX : pz_X X cX6_parse 3 RX6) : ∀ lv st g c s, (zo_al 1 0 (zo_il 1 1 (zo_puti 8 5 (zo_al 1 0 (zo_ic 1 (0) (zo_puti 8 3 (zo_al 1 0 (zo_ic 1 (-1) (zo_puti 8 4 (zo_al 1 0 (zo_get 8 0 (pz_Z X 3)))))))))))) 0 lv st g c s → pz_Z X 3 0 lv st g c s := (zs_aload_n hX dX6_parse_0 rfl (zs_iload_n hX dX6_parse_1 rfl (zs_puti hX (C := RX6) (T := TX6) (N := 6) rfl in_X6 (by decide) mw_de20c77d tyX6 tyX6_ok nmX6 (by decide +kernel) rfl dX6_parse_2 (zs_aload_n hX dX6_parse_5 rfl (zs_iconst hX dX6_parse_6 (by decide) (zs_puti hX (C := RX6) (T := TX6) (N := 6) rfl in_X6 (by decide) mw_efbf8de0 tyX6 tyX6_ok nmX6 (by decide +kernel) rfl dX6_parse_7 (zs_aload_n hX dX6_parse_10 rfl (zs_iconst hX dX6_parse_11 (by decide) (zs_puti hX (C := RX6) (T := TX6) (N := 6) rfl in_X6 (by decide) mw_f486a86b tyX6 tyX6_ok nmX6 (by decide +kernel) rfl dX6_parse_12 (zs_aload_n hX dX6_parse_15 rfl (zs_get hX (C := RX6) (T := TX6) (N := 6) rfl in_X6 (by decide) mw_aa01b0a6 dX6_parse_16 (fun _ _ _ _ _ h => h))))))))))))
set_option maxRecDepth 20000 in
theorem bX6_parse_19 {X : pz_C} {G : pz_Gx} {sa md mi : Nat} {rm : Room} (hX : pz_X X cX6_parse 3 RX6) (hrm : pz_rm X = rm) (hGX : pz_GX X G) (hOk : pz_O2 G sa md mi) (gh : gt_Jx4a65c_clear_da8c8) (hr_Jx4a65c_clear_da8c8 : rm_Jx4a65c_clear_da8c8.frames + 1 ≤ rm.frames ∧ 8 + (4 + 11) + rm_Jx4a65c_clear_da8c8.locals ≤ rm.locals) : ∀ lv st g c s, (zo_cV rm 1 0 5 rm_Jx4a65c_clear_da8c8.cells rm_Jx4a65c_clear_da8c8.slots (pr_Jx4a65c_clear_da8c8 gh) (po_Jx4a65c_clear_da8c8 gh) (zo_kv (zo_al 1 0 (zo_get 8 1 (zo_if_ne 33 (pz_Z X 3)))))) 19 lv st g c s → pz_Z X 3 19 lv st g c s := by
  subst hrm
  exact (zs_csF hX hGX (C := RJx4a65c) (T := TJx4a65c) (N := 3) rfl (ct_Jx4a65c_clear_da8c8 hOk.1 gh) (hOk.1.2.2.2.2.1) mw_f2c4c734 mw_1556ba1d mw_4fe049fb mw_dd3bf01c mw_e2a6a5de (by decide +kernel) hr_Jx4a65c_clear_da8c8 dX6_parse_19 (zs_kv (zs_aload_n hX dX6_parse_24 rfl (zs_get hX (C := RX6) (T := TX6) (N := 6) rfl in_X6 (by decide) mw_526baddf dX6_parse_25 (zs_if_ne hX dX6_parse_28 (by decide) (fun _ _ _ _ _ _ h => h))))))
set_option maxRecDepth 20000 in
theorem bX6_parse_31 {X : pz_C} {rm : Room} {E : Option pz_V → pz_H → Prop} (hX : pz_X X cX6_parse 3 RX6) (hR : pz_Rt X cX6_parse 3 (some .int) rm E) : ∀ lv st g c s, (zo_ic 1 (0) (zo_ri rm E)) 31 lv st g c s → pz_Z X 3 31 lv st g c s := (zs_iconst hX dX6_parse_31 (by decide) (zs_ri hR dX6_parse_32))
set_option maxRecDepth 20000 in
theorem bX6_parse_33 {X : pz_C} (hX : pz_X X cX6_parse 3 RX6) : ∀ lv st g c s, (zo_al 1 0 (pz_Z X 3)) 33 lv st g c s → pz_Z X 3 33 lv st g c s := (zs_aload_n hX dX6_parse_33 rfl (fun _ _ _ _ _ h => h))
set_option maxRecDepth 20000 in
theorem bX6_parse_34 {X : pz_C} {G : pz_Gx} {sa md mi : Nat} {rm : Room} (hX : pz_X X cX6_parse 3 RX6) (hrm : pz_rm X = rm) (hGX : pz_GX X G) (hOk : pz_O2 G sa md mi) (gh : gt_X6_parseItem) (hr_X6_parseItem : rm_X6_parseItem.frames + 1 ≤ rm.frames ∧ 8 + (1 + 11) + rm_X6_parseItem.locals ≤ rm.locals) : ∀ lv st g c s, (zo_cV rm 8 0 3 rm_X6_parseItem.cells rm_X6_parseItem.slots (pr_X6_parseItem sa gh) (po_X6_parseItem sa gh) (zo_kv (zo_ic 1 (1) (zo_is 1 2 (pz_Z X 3))))) 34 lv st g c s → pz_Z X 3 34 lv st g c s := by
  subst hrm
  exact (zs_csV hX hGX (C := RX6) (T := TX6) (N := 6) rfl (ct_X6_parseItem hOk gh) mw_c5133ef3 mw_b7e05c5d mw_b945c40c mw_59af5b5a mw_3c9d58e5 (by decide +kernel) hr_X6_parseItem dX6_parse_34 (zs_kv (zs_iconst hX dX6_parse_37 (by decide) (zs_istore_n hX dX6_parse_38 rfl (by decide) (fun _ _ _ _ _ h => h)))))
set_option maxRecDepth 20000 in
theorem bX6_parse_39 {X : pz_C} (hX : pz_X X cX6_parse 3 RX6) : ∀ lv st g c s, (zo_il 1 2 (zo_al 1 0 (zo_get 8 1 (zo_ic_ge 82 (pz_Z X 3))))) 39 lv st g c s → pz_Z X 3 39 lv st g c s := (zs_iload_n hX dX6_parse_39 rfl (zs_aload_n hX dX6_parse_40 rfl (zs_get hX (C := RX6) (T := TX6) (N := 6) rfl in_X6 (by decide) mw_526baddf dX6_parse_41 (zs_ic_ge hX dX6_parse_44 (by decide) (fun _ _ _ _ _ _ h => h)))))
set_option maxRecDepth 20000 in
theorem bX6_parse_47 {X : pz_C} (hX : pz_X X cX6_parse 3 RX6) : ∀ lv st g c s, (zo_al 1 0 (zo_get 8 4 (zo_ic 1 (-1) (zo_ic_ne 82 (pz_Z X 3))))) 47 lv st g c s → pz_Z X 3 47 lv st g c s := (zs_aload_n hX dX6_parse_47 rfl (zs_get hX (C := RX6) (T := TX6) (N := 6) rfl in_X6 (by decide) mw_f486a86b dX6_parse_48 (zs_iconst hX dX6_parse_51 (by decide) (zs_ic_ne hX dX6_parse_52 (by decide) (fun _ _ _ _ _ _ h => h)))))
set_option maxRecDepth 20000 in
theorem bX6_parse_55 {X : pz_C} (hX : pz_X X cX6_parse 3 RX6) : ∀ lv st g c s, (zo_al 1 0 (zo_get 8 3 (zo_al 1 0 (zo_get 8 1 (zo_ic_ge 82 (pz_Z X 3)))))) 55 lv st g c s → pz_Z X 3 55 lv st g c s := (zs_aload_n hX dX6_parse_55 rfl (zs_get hX (C := RX6) (T := TX6) (N := 6) rfl in_X6 (by decide) mw_efbf8de0 dX6_parse_56 (zs_aload_n hX dX6_parse_59 rfl (zs_get hX (C := RX6) (T := TX6) (N := 6) rfl in_X6 (by decide) mw_526baddf dX6_parse_60 (zs_ic_ge hX dX6_parse_63 (by decide) (fun _ _ _ _ _ _ h => h))))))
set_option maxRecDepth 20000 in
theorem bX6_parse_66 {X : pz_C} (hX : pz_X X cX6_parse 3 RX6) : ∀ lv st g c s, (zo_al 1 0 (zo_ic 2 (59) (pz_Z X 3))) 66 lv st g c s → pz_Z X 3 66 lv st g c s := (zs_aload_n hX dX6_parse_66 rfl (zs_bipush hX dX6_parse_67 (by decide) (fun _ _ _ _ _ h => h)))
set_option maxRecDepth 20000 in
theorem bX6_parse_69 {X : pz_C} {G : pz_Gx} {sa md mi : Nat} {rm : Room} (hX : pz_X X cX6_parse 3 RX6) (hrm : pz_rm X = rm) (hGX : pz_GX X G) (hOk : pz_O2 G sa md mi) (gh : gt_X6_parseSign) (hr_X6_parseSign : rm_X6_parseSign.frames + 1 ≤ rm.frames ∧ 8 + (2 + 11) + rm_X6_parseSign.locals ≤ rm.locals) : ∀ lv st g c s, (zo_cV rm 8 1 3 rm_X6_parseSign.cells rm_X6_parseSign.slots (pr_X6_parseSign gh) (po_X6_parseSign gh) (zo_kv (zo_al 1 0 (pz_Z X 3)))) 69 lv st g c s → pz_Z X 3 69 lv st g c s := by
  subst hrm
  exact (zs_csV hX hGX (C := RX6) (T := TX6) (N := 6) rfl (ct_X6_parseSign hOk.1 gh) mw_1fe06e7f mw_5172d50a mw_883123ce mw_59af5b5a mw_efb32b27 (by decide +kernel) hr_X6_parseSign dX6_parse_69 (zs_kv (zs_aload_n hX dX6_parse_72 rfl (fun _ _ _ _ _ h => h))))
set_option maxRecDepth 20000 in
theorem bX6_parse_73 {X : pz_C} {G : pz_Gx} {sa md mi : Nat} {rm : Room} (hX : pz_X X cX6_parse 3 RX6) (hrm : pz_rm X = rm) (hGX : pz_GX X G) (hOk : pz_O2 G sa md mi) (gh : gt_X6_parseItem) (hr_X6_parseItem : rm_X6_parseItem.frames + 1 ≤ rm.frames ∧ 8 + (1 + 11) + rm_X6_parseItem.locals ≤ rm.locals) : ∀ lv st g c s, (zo_cV rm 8 0 3 rm_X6_parseItem.cells rm_X6_parseItem.slots (pr_X6_parseItem sa gh) (po_X6_parseItem sa gh) (zo_kv (zo_inc 2 (1) (zo_goto 39 (pz_Z X 3))))) 73 lv st g c s → pz_Z X 3 73 lv st g c s := by
  subst hrm
  exact (zs_csV hX hGX (C := RX6) (T := TX6) (N := 6) rfl (ct_X6_parseItem hOk gh) mw_c5133ef3 mw_b7e05c5d mw_b945c40c mw_59af5b5a mw_3c9d58e5 (by decide +kernel) hr_X6_parseItem dX6_parse_73 (zs_kv (zs_iinc hX dX6_parse_76 (by decide) (by decide) (zs_goto hX dX6_parse_79 (by decide) (fun _ _ _ _ _ _ h => h)))))
set_option maxRecDepth 20000 in
theorem bX6_parse_82 {X : pz_C} (hX : pz_X X cX6_parse 3 RX6) : ∀ lv st g c s, (zo_al 1 0 (zo_get 8 4 (zo_ic 1 (-1) (zo_ic_ne 102 (pz_Z X 3))))) 82 lv st g c s → pz_Z X 3 82 lv st g c s := (zs_aload_n hX dX6_parse_82 rfl (zs_get hX (C := RX6) (T := TX6) (N := 6) rfl in_X6 (by decide) mw_f486a86b dX6_parse_83 (zs_iconst hX dX6_parse_86 (by decide) (zs_ic_ne hX dX6_parse_87 (by decide) (fun _ _ _ _ _ _ h => h)))))
set_option maxRecDepth 20000 in
theorem bX6_parse_90 {X : pz_C} (hX : pz_X X cX6_parse 3 RX6) : ∀ lv st g c s, (zo_al 1 0 (zo_get 8 0 (pz_Z X 3))) 90 lv st g c s → pz_Z X 3 90 lv st g c s := (zs_aload_n hX dX6_parse_90 rfl (zs_get hX (C := RX6) (T := TX6) (N := 6) rfl in_X6 (by decide) mw_aa01b0a6 dX6_parse_91 (fun _ _ _ _ _ h => h)))
set_option maxRecDepth 20000 in
theorem bX6_parse_94 {X : pz_C} {G : pz_Gx} {sa md mi : Nat} {rm : Room} (hX : pz_X X cX6_parse 3 RX6) (hrm : pz_rm X = rm) (hGX : pz_GX X G) (hOk : pz_O2 G sa md mi) (gh : gt_Jx4a65c_size_8abf5) (hr_Jx4a65c_size_8abf5 : rm_Jx4a65c_size_8abf5.frames + 1 ≤ rm.frames ∧ 8 + (1 + 11) + rm_Jx4a65c_size_8abf5.locals ≤ rm.locals) : ∀ lv st g c s, (zo_cV rm 1 0 5 rm_Jx4a65c_size_8abf5.cells rm_Jx4a65c_size_8abf5.slots (pr_Jx4a65c_size_8abf5 gh) (po_Jx4a65c_size_8abf5 gh) (zo_ki (zo_goto 108 (pz_Z X 3)))) 94 lv st g c s → pz_Z X 3 94 lv st g c s := by
  subst hrm
  exact (zs_csF hX hGX (C := RJx4a65c) (T := TJx4a65c) (N := 3) rfl (ct_Jx4a65c_size_8abf5 hOk.1 gh) (hOk.1.2.1) mw_1dca36d4 mw_e0c83bb7 mw_8c7bf081 mw_dd3bf01c mw_d1eac4b0 (by decide +kernel) hr_Jx4a65c_size_8abf5 dX6_parse_94 (zs_ki (zs_goto hX dX6_parse_99 (by decide) (fun _ _ _ _ _ _ h => h))))
set_option maxRecDepth 20000 in
theorem bX6_parse_102 {X : pz_C} (hX : pz_X X cX6_parse 3 RX6) : ∀ lv st g c s, (zo_ic 1 (-1) (zo_al 1 0 (zo_get 8 4 (zo_isub (pz_Z X 3))))) 102 lv st g c s → pz_Z X 3 102 lv st g c s := (zs_iconst hX dX6_parse_102 (by decide) (zs_aload_n hX dX6_parse_103 rfl (zs_get hX (C := RX6) (T := TX6) (N := 6) rfl in_X6 (by decide) mw_f486a86b dX6_parse_104 (zs_isub hX dX6_parse_107 (fun _ _ _ _ _ h => h)))))
set_option maxRecDepth 20000 in
theorem bX6_parse_108 {X : pz_C} {rm : Room} {E : Option pz_V → pz_H → Prop} (hX : pz_X X cX6_parse 3 RX6) (hR : pz_Rt X cX6_parse 3 (some .int) rm E) : ∀ lv st g c s, (zo_ri rm E) 108 lv st g c s → pz_Z X 3 108 lv st g c s := (zs_ri hR dX6_parse_108)
abbrev gt_X6_parse : Type := Nat × (Nat × Nat × Nat × Nat) × (Int32 × Int32 × Nat) × (Nat → Int32) × (Nat × (Nat → Nat)) × (Nat → cl_D) × Nat
def rm_X6_parse : gt_X6_parse → Room := fun (_, (_, _, len, _), _) => { frames := 9, cells := 35 * len, slots := 471 * len, locals := 212 }
def pr_X6_parse (sa : Nat) : gt_X6_parse → List pz_V → pz_H → Prop := fun (tx, (cm, sg, len, at'), (fa, ro, room), cf, (m, hl), D, U0) av g => av = [.inr (.inr (some (tx))), .inl (nI room)] ∧ room ≤ 40 ∧ len ≤ 500 ∧ txS g tx cm sg len at' fa ro cf ∧ lsE g cm [7] [8] sa m hl
def po_X6_parse (sa : Nat) : gt_X6_parse → List pz_V → pz_H → Option pz_V → pz_H → Prop := fun (tx, (cm, sg, len, at'), (fa, ro, room), cf, (m, hl), D, U0) _ g v g' => v = some (.inl (if (tp_0 len cf room D).1.2 = -1 then nI (tp_0 len cf room D).2.1 else -1 - (tp_0 len cf room D).1.2)) ∧ hg (trSc U0) g g' ∧ ∃ K' U', U0 ≤ U' ∧ tpS sa g' (tx, (cm, sg, len, (tp_0 len cf room D).1.1), ((tp_0 len cf room D).1.2, nI room), cf, ((tp_0 len cf room D).2.1, K', (tp_0 len cf room D).2.2), U0, U')
set_option maxRecDepth 20000 in
set_option maxHeartbeats 8000000 in
theorem ct_X6_parse {G : pz_Gx} {sa md mi : Nat} (hOk : pz_O2 G sa md mi) (gh : gt_X6_parse) : pz_M G yX6_parse cX6_parse 3 (some .int) (rm_X6_parse gh) (pr_X6_parse sa gh) (po_X6_parse sa gh) := by
  obtain ⟨tx, ⟨cm, sg, len, at'⟩, ⟨fa, ro, room⟩, cf, ⟨m, hl⟩, D, U0⟩ := gh
  refine pz_ofZ (by decide) hOk.1.1 (Or.inr (Or.inl rfl)) ?_ ?_
  · rintro av g ⟨rfl, -⟩
    exact Nat.le_of_ble_eq_true rfl
  · rintro X hX hGX hrm - av g ⟨rfl, hro, hlen, hts, hls⟩ hR
    have hF : ∀ {a b : Nat}, Nat.ble a 9 = true → Nat.ble b 212 = true → a ≤ (rm_X6_parse (tx, (cm, sg, len, at'), (fa, ro, room), cf, (m, hl), D, U0)).frames ∧ b ≤ (rm_X6_parse (tx, (cm, sg, len, at'), (fa, ro, room), cf, (m, hl), D, U0)).locals := fun h1 h2 => ⟨Nat.le_of_ble_eq_true h1, Nat.le_of_ble_eq_true h2⟩
    -- the answer
    have out : ∀ (s : tp_T) (gk : pz_H) (cc ss : Nat) (lv2 : pz_L) (K' : Nat → lr_T) (U' : Nat), (∃ x, lv2 = [(2, x), (0, .inr (.inr (some (tx)))), (1, .inl (nI room))]) → cc ≤ 35 * len → ss ≤ 471 * len → tp_0 len cf room D = s → s.2.1 ≤ 41 → hg (trSc U0) g gk → U0 ≤ U' → tpS sa gk (tx, (cm, sg, len, s.1.1), (s.1.2, nI room), cf, (s.2.1, K', s.2.2), U0, U') → pz_Z X 3 82 lv2 [] gk cc ss := by
      rintro s gk cc ss lv2 K' U' ⟨x, rfl⟩ hcc hss he hm hh hU ht
      obtain ⟨t1, t2, t3, t4, t5⟩ := id ht
      obtain ⟨⟨h41', mc', ed', cap', o', hla', hc'⟩, hK2', hK3'⟩ := id t5
      refine bX6_parse_82 hX _ _ _ _ _ ⟨_, _, _, t1.1, rfl, fun q => ?_, fun q => ?_⟩
      · refine bX6_parse_102 hX _ _ _ _ _ ⟨_, _, _, t1.1, rfl, ?_⟩
        refine bX6_parse_108 hX hR _ _ _ _ _ ⟨hcc, hss, ?_⟩
        unfold po_X6_parse
        dsimp only
        rw [he, if_neg q]
        exact ⟨rfl, hh, K', U', hU, ht⟩
      · refine bX6_parse_90 hX _ _ _ _ _ ⟨_, _, _, t1.1, rfl, ?_⟩
        refine bX6_parse_94 hX hrm hGX hOk (cm, nI s.2.1) (hF rfl rfl) _ _ _ _ _ ⟨Nat.le_of_ble_eq_true rfl, ⟨cm, [], [7], _, rfl, hla'⟩, hcc, hss, Nat.le_of_ble_eq_true rfl, ⟨rfl, _, _, hla', rfl⟩, ?_⟩
        rintro v g2 ⟨rfl, rfl⟩ z hz
        cases hz
        refine bX6_parse_108 hX hR _ _ _ _ _ ⟨hcc, hss, ?_⟩
        unfold po_X6_parse
        dsimp only
        rw [he, if_pos q]
        exact ⟨rfl, hh, K', U', hU, ht⟩
    have loop : ∀ (k i : Nat) (s : tp_T) (gk : pz_H) (K' : Nat → lr_T) (U' : Nat), i + k = len → tp_0 len cf room D = tp_n len cf room k s → hg (trSc U0) g gk → U0 ≤ U' → tpS sa gk (tx, (cm, sg, len, s.1.1), (s.1.2, nI room), cf, (s.2.1, K', s.2.2), U0, U') → pz_Z X 3 39 [(2, .inl (nI i)), (0, .inr (.inr (some (tx)))), (1, .inl (nI room))] [] gk (35 * i) (471 * i) := by
      intro k
      induction k with
      | zero =>
        intro i s gk K' U' hi he hh hU ht
        obtain ⟨t1, t2, t3, t4, t5⟩ := id ht
        refine bX6_parse_39 hX _ _ _ _ _ ⟨_, _, _, t1.1, rfl, fun _ => ?_, fun q => absurd ((ni_le (by omega) (by omega)).mpr (by omega)) q⟩
        exact out s gk _ _ _ K' U' ⟨_, rfl⟩ (Nat.mul_le_mul_left _ (by omega)) (Nat.mul_le_mul_left _ (by omega)) he t5.1.1 hh hU ht
      | succ k ih =>
        intro i s gk K' U' hi he hh hU ht
        obtain ⟨t1, t2, t3, t4, t5⟩ := id ht
        have hend : ¬ (s.1.2 = -1 ∧ s.1.1 < len) → pz_Z X 3 82 [(2, .inl (nI i)), (0, .inr (.inr (some (tx)))), (1, .inl (nI room))] [] gk (35 * i) (471 * i) := fun hx => out s gk _ _ _ K' U' ⟨_, rfl⟩ (Nat.mul_le_mul_left _ (by omega)) (Nat.mul_le_mul_left _ (by omega)) (by rw [he]; unfold tp_n; rw [if_neg hx]) t5.1.1 hh hU ht
        refine bX6_parse_39 hX _ _ _ _ _ ⟨_, _, _, t1.1, rfl, fun q => absurd ((ni_le (by omega) (by omega)).mp q) (by omega), fun _ => ?_⟩
        refine bX6_parse_47 hX _ _ _ _ _ ⟨_, _, _, t1.1, rfl, fun q => hend (fun e => q e.1), fun q => ?_⟩
        refine bX6_parse_55 hX _ _ _ _ _ ⟨_, _, _, t1.1, rfl, _, _, _, t1.1, rfl, fun q2 => hend (fun e => ?_), fun q2 => ?_⟩
        · have := (ni_le (by omega) (by omega)).mp q2
          omega
        · have hat2 : s.1.1 < len := Classical.byContradiction fun e => q2 ((ni_le (by omega) (by omega)).mpr (by omega))
          refine bX6_parse_66 hX _ _ _ _ _ ?_
          refine bX6_parse_69 hX hrm hGX hOk ((tx, 59), (cm, sg, len, s.1.1), (s.1.2, nI room), cf) (hF rfl rfl) _ _ _ _ _ ⟨Nat.le_of_ble_eq_true rfl, ⟨tx, [.inl (59)], [4], _, rfl, t1.1⟩, Nat.mul_le_mul_left _ (by omega), Nat.mul_le_mul_left _ (by omega), Nat.le_of_ble_eq_true rfl, ⟨rfl, hlen, t3, t1⟩, ?_⟩
          rintro v g1 ⟨rfl, h1, x1⟩ -
          have m1 := sg_mv (f := cf) (x := 59) (s := s.1) t3
          rw [show (s.1.1, s.1.2) = s.1 from rfl] at x1
          refine bX6_parse_73 hX hrm hGX hOk (tx, (cm, sg, len, (tx_sg len cf 59 s.1).1), ((tx_sg len cf 59 s.1).2, room), cf, (s.2.1, K', s.2.2), U0, U') (hF rfl rfl) _ _ _ _ _ ⟨Nat.le_of_ble_eq_true rfl, ⟨tx, [], [4], _, rfl, x1.1⟩, by show 35 * i + 0 + 35 ≤ 35 * len; omega, by show 471 * i + 0 + 471 ≤ 471 * len; omega, Nat.le_of_ble_eq_true rfl, ⟨rfl, hro, x1, hlen, m1.2, t4, cmS_mono h1 (fun b hb => Or.inl hb) t5⟩, ?_⟩
          rintro v g2 ⟨rfl, h2, K2, U2, hU2, ht2⟩ -
          have := ih (i + 1) (tp_i len cf room (tx_sg len cf 59 s.1, s.2)) g2 K2 U2 (by omega) (by rw [he]; show (if s.1.2 = -1 ∧ s.1.1 < len then tp_n len cf room k (tp_i len cf room (tx_sg len cf 59 s.1, s.2)) else s) = _; rw [if_pos ⟨q, hat2⟩]) (hg_tr hh (hg_tr (hg_mono h1 (fun b hb => Or.inl hb)) h2)) (by omega) ht2
          rw [show 35 * (i + 1) = 35 * i + 0 + 35 by omega, show 471 * (i + 1) = 471 * i + 0 + 471 by omega] at this
          exact pz_lsub (by exact ⟨ni_inc, rfl, rfl, trivial⟩) this
    -- from the start
    refine bX6_parse_0 hX _ _ _ _ _ ⟨_, _, hts.1, Nat.le_of_ble_eq_true rfl, _, _, up_at, Nat.le_of_ble_eq_true rfl, _, _, up_at, Nat.le_of_ble_eq_true rfl, _, _, _, up_at, rfl, ?_⟩
    rw [up_up, up_up]
    have hu := hg_up (S := fun b => b = [4]) (v := some ([4], .inr (8, [.inr (.inr (some (cm))), .inl (nI len), .inr (.inr (some (sg))), .inl 0, .inl (-1), .inl (nI room)]))) hg_rf hts.1 rfl
    have hts0 : txS (va_up g tx (some ([4], .inr (8, [.inr (.inr (some (cm))), .inl (nI len), .inr (.inr (some (sg))), .inl 0, .inl (-1), .inl (nI room)])))) tx cm sg len 0 (-1) (nI room) cf := ⟨up_at, up_ne hts.2 hts.1 (by decide)⟩
    have hls0 := lsE_mono hu (by decide) hls
    obtain ⟨h41, mc, ed, cap, o, hla, hc⟩ := id hls0
    refine bX6_parse_19 hX hrm hGX hOk (cm, ([7], [8]), sa, m, hl) (hF rfl rfl) _ _ _ _ _ ⟨Nat.le_of_ble_eq_true rfl, ⟨cm, [], [7], _, rfl, hla⟩, Nat.zero_le _, Nat.zero_le _, Nat.le_of_ble_eq_true rfl, ⟨rfl, by decide, by decide, hls0⟩, ?_⟩
    rintro v g1 ⟨rfl, h1, l1⟩ -
    have x1 := txS_mono h1 (by decide) hts0
    have H1 : hg (trSc U0) g g1 := hg_tr (hg_mono hu (fun b hb => Or.inl hb)) (hg_mono h1 (fun b hb => by rcases hb with hb | hb; exact Or.inr (Or.inl hb); exact Or.inr (Or.inr (Or.inl hb))))
    have S1 : ∀ e0 : Int32, e0 = -1 → tpS sa g1 (tx, (cm, sg, len, 0), (e0, nI room), cf, (0, fun _ => lr_z 0 0 (fun _ => 0) (fun _ => 0) (fun _ => 0) 0 (fun _ => 0) (fun _ => 0) (fun _ => 0), D), U0, U0) := fun e0 he0 => by
      subst he0
      refine ⟨x1, hlen, Nat.zero_le _, Nat.le_refl _, ?_, fun i hi => absurd hi (Nat.not_lt_zero _), fun i j hi _ _ => absurd hi (Nat.not_lt_zero _)⟩
      obtain ⟨a1, mc', ed', cap', o', a2, a3⟩ := l1
      refine ⟨a1, mc', ed', cap', o', a2, ?_⟩
      rcases a3 with a3 | ⟨b1, b2, b3, b4, b5⟩
      · exact Or.inl a3
      · exact Or.inr ⟨b1, b2, b3, b4, fun i hi => absurd hi (Nat.not_lt_zero _)⟩
    refine ⟨_, _, _, x1.1, rfl, fun q => ?_, fun q => ?_⟩
    · have hl0 : len ≠ 0 := fun e => q (by rw [e]; rfl)
      refine bX6_parse_33 hX _ _ _ _ _ ?_
      refine bX6_parse_34 hX hrm hGX hOk (tx, (cm, sg, len, 0), (-1, room), cf, (0, _, D), U0, U0) (hF rfl rfl) _ _ _ _ _ ⟨Nat.le_of_ble_eq_true rfl, ⟨tx, [], [4], _, rfl, x1.1⟩, by show 0 + 0 + 35 ≤ 35 * len; omega, by show 0 + 0 + 471 ≤ 471 * len; omega, Nat.le_of_ble_eq_true rfl, ⟨rfl, hro, S1 (-1) rfl⟩, ?_⟩
      rintro v g2 ⟨rfl, h2, K2, U2, hU2, ht2⟩ -
      exact pz_lsub (by exact ⟨rfl, rfl, rfl, trivial⟩) (loop (len - 1) 1 (tp_i len cf room ((0, -1), 0, D)) g2 K2 U2 (by omega) (by unfold tp_0; rw [if_neg hl0]) (hg_tr H1 h2) hU2 ht2)
    · have hl0 : len = 0 := by
        refine Classical.byContradiction fun e => ?_
        have q' : nI len = 0 := by first | exact q | exact Classical.byContradiction fun e2 => q e2
        exact nI_ne0 (by omega) (by omega) q'
      refine bX6_parse_31 hX hR _ _ _ _ _ ⟨Nat.zero_le _, Nat.zero_le _, ?_⟩
      have e0 : tp_0 len cf room D = ((0, -1), 0, D) := by unfold tp_0; rw [if_pos hl0]
      unfold po_X6_parse
      dsimp only
      rw [e0]
      exact ⟨rfl, H1, _, U0, Nat.le_refl _, S1 (-1) rfl⟩
