/-! ArrayList: add, clear -/
set_option maxRecDepth 20000 in
theorem bJx4a65c_grow_d5877_0 {X : pz_C} (hX : pz_X X cJx4a65c_grow_d5877 1 RJx4a65c) : ∀ lv st g c s, (zo_al 1 0 (zo_al 1 0 (zo_get 1 2 (zo_ic 1 (1) (zo_iadd (pz_Z X 1)))))) 0 lv st g c s → pz_Z X 1 0 lv st g c s := (zs_aload_n hX dJx4a65c_grow_d5877_0 rfl (zs_aload_n hX dJx4a65c_grow_d5877_1 rfl (zs_get hX (C := RJx4a65c) (T := TJx4a65c) (N := 3) rfl in_Jx4a65c (by decide) mw_259fe66e dJx4a65c_grow_d5877_2 (zs_iconst hX dJx4a65c_grow_d5877_5 (by decide) (zs_iadd hX dJx4a65c_grow_d5877_6 (fun _ _ _ _ _ h => h))))))
set_option maxRecDepth 20000 in
theorem bJx4a65c_grow_d5877_7 {X : pz_C} {G : pz_Gx} {sa md mi : Nat} {rm : Room} {E : Option pz_V → pz_H → Prop} (hX : pz_X X cJx4a65c_grow_d5877 1 RJx4a65c) (hR : pz_Rt X cJx4a65c_grow_d5877 1 (some (.array (.object "java/lang/Object"))) rm E) (hrm : pz_rm X = rm) (hGX : pz_GX X G) (hOk : pz_O2 G sa md mi) (gh : gt_Jx4a65c_grow_92f84) (hr_Jx4a65c_grow_92f84 : rm_Jx4a65c_grow_92f84.frames + 1 ≤ rm.frames ∧ 8 + (4 + 11) + rm_Jx4a65c_grow_92f84.locals ≤ rm.locals) : ∀ lv st g c s, (zo_cV rm 1 1 3 rm_Jx4a65c_grow_92f84.cells rm_Jx4a65c_grow_92f84.slots (pr_Jx4a65c_grow_92f84 sa gh) (po_Jx4a65c_grow_92f84 sa gh) (zo_kr (zo_rr rm E))) 7 lv st g c s → pz_Z X 1 7 lv st g c s := by
  subst hrm
  exact (zs_csV hX hGX (C := RJx4a65c) (T := TJx4a65c) (N := 3) rfl (ct_Jx4a65c_grow_92f84 hOk gh) mw_86e22cfe mw_cec8105b mw_dd878a92 mw_dd3bf01c mw_23cc1832 (by decide +kernel) hr_Jx4a65c_grow_92f84 dJx4a65c_grow_d5877_7 (zs_kr (by first | exact Or.inl ⟨_, rfl⟩ | exact Or.inr ⟨_, rfl⟩) (zs_rr (by first | exact Or.inl ⟨_, rfl⟩ | exact Or.inr ⟨_, rfl⟩) hR dJx4a65c_grow_d5877_10)))
def rm_Jx4a65c_grow_d5877 : Room := { frames := 4, cells := 1, slots := 61, locals := 107 }
abbrev gt_Jx4a65c_grow_d5877 : Type := Nat × (List Nat × List Nat) × Nat × (Nat × Nat) × (Nat → Option Nat) × Int32
def pr_Jx4a65c_grow_d5877 (sa : Nat) : gt_Jx4a65c_grow_d5877 → List pz_V → pz_H → Prop := fun (la, bb, n, ec, o, mc) av g => av = [.inr (.inr (some (la)))] ∧ grS sa g (la, bb, n, ec, o, mc)
def po_Jx4a65c_grow_d5877 (sa : Nat) : gt_Jx4a65c_grow_d5877 → List pz_V → pz_H → Option pz_V → pz_H → Prop := fun gh _ g v g' => grP g g' v gh
theorem ct_Jx4a65c_grow_d5877 {G : pz_Gx} {sa md mi : Nat} (hOk : pz_O2 G sa md mi) (gh : gt_Jx4a65c_grow_d5877) : pz_M G yJx4a65c_grow_d5877 cJx4a65c_grow_d5877 1 (some (.array (.object "java/lang/Object"))) rm_Jx4a65c_grow_d5877 (pr_Jx4a65c_grow_d5877 sa gh) (po_Jx4a65c_grow_d5877 sa gh) := by
  obtain ⟨la, ⟨bl, be⟩, n, ⟨ed, cap⟩, o, mc⟩ := gh
  refine pz_ofZ (by decide) hOk.1.1 (Or.inr (Or.inr (Or.inr (Or.inr (Or.inr ⟨_, rfl⟩))))) ?_ ?_
  · rintro av g ⟨rfl, -⟩
    exact Nat.le_of_ble_eq_true rfl
  · rintro X hX hGX hrm - av g ⟨rfl, hg⟩ hR
    obtain ⟨hn, hbe, hb5, hla, hc⟩ := id hg
    refine bJx4a65c_grow_d5877_0 hX _ _ _ _ _ ⟨_, _, _, hla, rfl, ?_⟩
    show pz_Z X 1 7 [(0, .inr (.inr (some (la))))] [.inl (nI n + 1), .inr (.inr (some (la)))] g 0 0
    rw [nI_1]
    refine bJx4a65c_grow_d5877_7 hX hR hrm hGX hOk (la, (bl, be), n, (ed, cap), o, mc) (by decide) _ _ _ _ _ ⟨Nat.le_of_ble_eq_true rfl, ⟨la, [.inl (nI (n + 1))], bl, _, rfl, hla⟩, Nat.le_of_ble_eq_true rfl, Nat.le_of_ble_eq_true rfl, Nat.le_of_ble_eq_true rfl, ⟨rfl, hg⟩, ?_⟩
    rintro v g2 h2 z hz
    subst hz
    exact ⟨Nat.le_of_ble_eq_true rfl, Nat.le_of_ble_eq_true rfl, h2⟩
set_option maxRecDepth 20000 in
theorem bJx4a65c_add_72be8_0 {X : pz_C} {G : pz_Gx} {sa md mi : Nat} (hX : pz_X X cJx4a65c_add_72be8 4 RJx4a65c) (hGX : pz_GX X G) (hOk : pz_O2 G sa md mi) : ∀ lv st g c s, (zo_il 1 3 (zo_al 1 2 (zo_lenS sa (zo_ic_ne 11 (pz_Z X 4))))) 0 lv st g c s → pz_Z X 4 0 lv st g c s := (zs_iload_n hX dJx4a65c_add_72be8_0 rfl (zs_aload_n hX dJx4a65c_add_72be8_1 rfl (zs_lenS hX hGX (fun B U J h => (hOk.2 B U J h).2.2.2.2.2.1.1) dJx4a65c_add_72be8_2 (zs_ic_ne hX dJx4a65c_add_72be8_3 (by decide) (fun _ _ _ _ _ _ h => h)))))
set_option maxRecDepth 20000 in
theorem bJx4a65c_add_72be8_6 {X : pz_C} (hX : pz_X X cJx4a65c_add_72be8 4 RJx4a65c) : ∀ lv st g c s, (zo_al 1 0 (pz_Z X 4)) 6 lv st g c s → pz_Z X 4 6 lv st g c s := (zs_aload_n hX dJx4a65c_add_72be8_6 rfl (fun _ _ _ _ _ h => h))
set_option maxRecDepth 20000 in
theorem bJx4a65c_add_72be8_7 {X : pz_C} {G : pz_Gx} {sa md mi : Nat} {rm : Room} (hX : pz_X X cJx4a65c_add_72be8 4 RJx4a65c) (hrm : pz_rm X = rm) (hGX : pz_GX X G) (hOk : pz_O2 G sa md mi) (gh : gt_Jx4a65c_grow_d5877) (hr_Jx4a65c_grow_d5877 : rm_Jx4a65c_grow_d5877.frames + 1 ≤ rm.frames ∧ 8 + (1 + 11) + rm_Jx4a65c_grow_d5877.locals ≤ rm.locals) : ∀ lv st g c s, (zo_cV rm 1 0 3 rm_Jx4a65c_grow_d5877.cells rm_Jx4a65c_grow_d5877.slots (pr_Jx4a65c_grow_d5877 sa gh) (po_Jx4a65c_grow_d5877 sa gh) (zo_kr (zo_as 1 2 (pz_Z X 4)))) 7 lv st g c s → pz_Z X 4 7 lv st g c s := by
  subst hrm
  exact (zs_csV hX hGX (C := RJx4a65c) (T := TJx4a65c) (N := 3) rfl (ct_Jx4a65c_grow_d5877 hOk gh) mw_d590bb77 mw_8414da0d mw_a7f042f4 mw_dd3bf01c mw_fc788926 (by decide +kernel) hr_Jx4a65c_grow_d5877 dJx4a65c_add_72be8_7 (zs_kr (by first | exact Or.inl ⟨_, rfl⟩ | exact Or.inr ⟨_, rfl⟩) (zs_astore_n hX dJx4a65c_add_72be8_10 rfl (by decide) (fun _ _ _ _ _ h => h))))
set_option maxRecDepth 20000 in
theorem bJx4a65c_add_72be8_11 {X : pz_C} {G : pz_Gx} {sa md mi : Nat} {rm : Room} {E : Option pz_V → pz_H → Prop} (hX : pz_X X cJx4a65c_add_72be8 4 RJx4a65c) (hR : pz_Rt X cJx4a65c_add_72be8 4 none rm E) (hGX : pz_GX X G) (hOk : pz_O2 G sa md mi) : ∀ lv st g c s, (zo_al 1 2 (zo_il 1 3 (zo_al 1 1 (zo_astq 5 5 (zo_al 1 0 (zo_il 1 3 (zo_ic 1 (1) (zo_iadd (zo_puti 1 2 (zo_rv rm E)))))))))) 11 lv st g c s → pz_Z X 4 11 lv st g c s := (zs_aload_n hX dJx4a65c_add_72be8_11 rfl (zs_iload_n hX dJx4a65c_add_72be8_12 rfl (zs_aload_n hX dJx4a65c_add_72be8_13 rfl (zs_astq hX hGX (C := RX3) (T := TX3) (N := 11) (E := "java/lang/Object") (fun _ => rfl) rfl (fun B U J h => (hOk.2 B U J h).2.2.2.2.2.2.2.2.2.2.2.2) dJx4a65c_add_72be8_14 (zs_aload_n hX dJx4a65c_add_72be8_15 rfl (zs_iload_n hX dJx4a65c_add_72be8_16 rfl (zs_iconst hX dJx4a65c_add_72be8_17 (by decide) (zs_iadd hX dJx4a65c_add_72be8_18 (zs_puti hX (C := RJx4a65c) (T := TJx4a65c) (N := 3) rfl in_Jx4a65c (by decide) mw_259fe66e tyJx4a65c tyJx4a65c_ok nmJx4a65c (by decide +kernel) rfl dJx4a65c_add_72be8_19 (zs_rv hR dJx4a65c_add_72be8_22))))))))))
def rm_Jx4a65c_add_72be8 : Room := { frames := 5, cells := 1, slots := 61, locals := 127 }
abbrev gt_Jx4a65c_add_72be8 : Type := (Nat × (List Nat × List Nat) × Nat × (Nat × Nat) × (Nat → Option Nat) × Int32) × Nat × (List Nat × List pz_V) × (Nat → Nat)
def adS (sa : Nat) (g : pz_H) : gt_Jx4a65c_add_72be8 → Prop := fun ((la, (bl, be), n, (ed, cap), o, mc), x, (bx, fx), hl) => (n ≤ 40 ∧ bl ≠ be ∧ bl ≠ [50] ∧ be ≠ [50] ∧ bx ≠ bl ∧ bx ≠ be) ∧ g la = some (bl, .inr (1, [.inl mc, .inr (.inr (some (ed))), .inl (nI n)])) ∧ g x = some (bx, .inr (5, fx)) ∧ (∀ i, i < n → ∃ bv fs, g (hl i) = some (bv, .inr (5, fs))) ∧ ((ed = sa ∧ n = 0 ∧ cap = 0 ∧ True) ∨ (g ed = some (be, ar_r 5 cap o) ∧ 10 ≤ cap ∧ cap ≤ 61 ∧ n ≤ cap ∧ ∀ i, i < n → o i = some (hl i)))
def adP (sa : Nat) (g g' : pz_H) : gt_Jx4a65c_add_72be8 → Prop := fun ((la, (bl, be), n, (ed, cap), o, mc), x, (bx, fx), hl) => hg (fun b => b = bl ∨ b = be) g g' ∧ lsE g' la bl be sa (n + 1) (fun i => if i = n then x else hl i)
def pr_Jx4a65c_add_72be8 (sa : Nat) : gt_Jx4a65c_add_72be8 → List pz_V → pz_H → Prop := fun ((la, bb, n, (ed, cap), o, mc), x, bf, hl) av g => av = [.inr (.inr (some (la))), .inr (.inr (some (x))), .inr (.inr (some (ed))), .inl (nI n)] ∧ adS sa g ((la, bb, n, (ed, cap), o, mc), x, bf, hl)
def po_Jx4a65c_add_72be8 (sa : Nat) : gt_Jx4a65c_add_72be8 → List pz_V → pz_H → Option pz_V → pz_H → Prop := fun gh _ g v g' => v = none ∧ adP sa g g' gh
set_option maxRecDepth 20000 in
theorem ct_Jx4a65c_add_72be8 {G : pz_Gx} {sa md mi : Nat} (hOk : pz_O2 G sa md mi) (gh : gt_Jx4a65c_add_72be8) : pz_M G yJx4a65c_add_72be8 cJx4a65c_add_72be8 4 none rm_Jx4a65c_add_72be8 (pr_Jx4a65c_add_72be8 sa gh) (po_Jx4a65c_add_72be8 sa gh) := by
  obtain ⟨⟨la, ⟨bl, be⟩, n, ⟨ed, cap⟩, o, mc⟩, x, ⟨bx, fx⟩, hl⟩ := gh
  refine pz_ofZ (by decide) hOk.1.1 (Or.inl rfl) ?_ ?_
  · rintro av g ⟨rfl, -⟩
    exact Nat.le_of_ble_eq_true rfl
  · rintro X hX hGX hrm - av g ⟨rfl, ⟨hn, hbe, hb5, he5, hxl, hxe⟩, hla, hx, hel, hc⟩ hR
    have fin : ∀ (g1 : pz_H) (e1 cap1 cc ss : Nat) (o1 : Nat → Option Nat), cc ≤ 1 → ss ≤ 61 → hg (fun b => b = bl ∨ b = be) g g1 → g1 la = some (bl, .inr (1, [.inl mc, .inr (.inr (some (e1))), .inl (nI n)])) → g1 e1 = some (be, ar_r 5 cap1 o1) → n + 1 ≤ cap1 → 10 ≤ cap1 → cap1 ≤ 61 → (∀ i, i < n → o1 i = some (hl i)) → pz_Z X 4 11 [(2, .inr (.inr (some (e1)))), (0, .inr (.inr (some (la)))), (1, .inr (.inr (some (x)))), (3, .inl (nI n))] [] g1 cc ss := by
      intro g1 e1 cap1 cc ss o1 hcc hss h1 h2 h3 h4 h5 h6 h7
      have hx1 := h1 _ _ _ hx (fun e => by rcases e with e | e; exact hxl e; exact hxe e)
      have hcn : (nI n).toNatClampNeg = n := ni_cl (by omega)
      refine bJx4a65c_add_72be8_11 hX hR hGX hOk _ _ _ _ _ ⟨be, cap1, o1, bx, fx, h3, hx1, ni_in (by omega) (by omega), ?_⟩
      rw [hcn]
      have h2' : va_up g1 e1 (some (be, ar_r 5 cap1 (va_up o1 n (some x)))) la = some (bl, .inr (1, [.inl mc, .inr (.inr (some (e1))), .inl (nI n)])) := up_ne h2 h3 hbe
      refine ⟨_, _, h2', Nat.le_of_ble_eq_true rfl, hcc, hss, rfl, hg_up (hg_up h1 h3 (Or.inr rfl)) h2' (Or.inl rfl), by omega, mc, e1, cap1, va_up o1 n (some x), ?_, Or.inr ⟨up_ne up_at h2' (fun e => hbe e.symm), h5, h6, h4, fun i hi => ?_⟩⟩
      · rw [up_at]
        show some (bl, Sum.inr (1, [Sum.inl mc, Sum.inr (Sum.inr (some e1)), Sum.inl (nI n + 1)])) = _
        rw [nI_1]
      · dsimp only
        by_cases hin : i = n
        · rw [if_pos hin, hin]; exact va_up_self _ _ _
        · rw [if_neg hin, va_up_ne _ _ hin]; exact h7 i (by omega)
    have grow : (grS sa g (la, (bl, be), n, (ed, cap), o, mc)) → (∀ i, i < n → o i = some (hl i)) → pz_Z X 4 6 (pz_ar 0 [.inr (.inr (some (la))), .inr (.inr (some (x))), .inr (.inr (some (ed))), .inl (nI n)]) [] g 0 0 := by
      intro hgr hoi
      refine bJx4a65c_add_72be8_6 hX _ _ _ _ _ ?_
      refine bJx4a65c_add_72be8_7 hX hrm hGX hOk (la, (bl, be), n, (ed, cap), o, mc) (by decide) _ _ _ _ _ ⟨Nat.le_of_ble_eq_true rfl, ⟨la, [], bl, _, rfl, hla⟩, Nat.le_of_ble_eq_true rfl, Nat.le_of_ble_eq_true rfl, Nat.le_of_ble_eq_true rfl, ⟨rfl, hgr⟩, ?_⟩
      rintro v g2 ⟨h1, q, cap', o', hq, rfl, h2, h3, h4, h5, h6, h7⟩ z hz
      cases hz
      exact fin g2 q cap' 1 61 o' (Nat.le_refl _) (Nat.le_refl _) (hg_mono h1 (fun b hb => Or.inl hb)) h2 h3 h4 h5 h6 (fun i hi => by rw [h7 i hi]; exact hoi i hi)
    rcases hc with ⟨rfl, rfl, rfl, hsa⟩ | ⟨hed, hc10, hc61, hnc, hoi⟩
    · refine bJx4a65c_add_72be8_0 hX hGX hOk _ _ _ _ _ (Or.inl ⟨rfl, fun q => absurd rfl q, fun _ => ?_⟩)
      exact grow ⟨hn, hbe, hb5, hla, Or.inl ⟨rfl, rfl, rfl, hsa⟩⟩ (fun i hi => absurd hi (Nat.not_lt_zero _))
    · refine bJx4a65c_add_72be8_0 hX hGX hOk _ _ _ _ _ (Or.inr ⟨_, _, _, hed, Nat.le_of_ble_eq_true rfl, fun q => ?_, fun q => ?_⟩)
      · have hne : n ≠ cap := fun e => q (by show nI n = nI cap; rw [e])
        exact pz_lsub (by exact ⟨rfl, rfl, rfl, rfl, trivial⟩) (fin g ed cap 0 0 o (Nat.zero_le _) (Nat.zero_le _) hg_rf hla hed (by omega) hc10 hc61 hoi)
      · have he : n = cap := ni_inj (by omega) (by omega) (Classical.byContradiction fun e => (by first | exact e q | exact q e))
        subst he
        exact grow ⟨hn, hbe, hb5, hla, Or.inr ⟨hed, hc10, rfl, fun i hi y hy => by rw [hoi i hi] at hy; cases hy; exact hel i hi⟩⟩ hoi
set_option maxRecDepth 20000 in
theorem bJx4a65c_add_9ea2d_0 {X : pz_C} (hX : pz_X X cJx4a65c_add_9ea2d 2 RJx4a65c) : ∀ lv st g c s, (zo_al 1 0 (zo_dup (zo_get 1 0 (zo_ic 1 (1) (zo_iadd (zo_puti 1 0 (zo_al 1 0 (zo_al 1 1 (zo_al 1 0 (zo_get 1 1 (zo_al 1 0 (zo_get 1 2 (pz_Z X 2))))))))))))) 0 lv st g c s → pz_Z X 2 0 lv st g c s := (zs_aload_n hX dJx4a65c_add_9ea2d_0 rfl (zs_dup hX dJx4a65c_add_9ea2d_1 (zs_getS hX (C := RJx4a65c) (T := TJx4a65c) (N := 3) (ref := "java/util/ArrayList") rfl in_Jx4a65c (by decide) mw_8be908d0 mw_420eb7b3 dJx4a65c_add_9ea2d_2 (zs_iconst hX dJx4a65c_add_9ea2d_5 (by decide) (zs_iadd hX dJx4a65c_add_9ea2d_6 (zs_putiS hX (C := RJx4a65c) (T := TJx4a65c) (N := 3) (ref := "java/util/ArrayList") rfl in_Jx4a65c (by decide) mw_8be908d0 mw_420eb7b3 tyJx4a65c tyJx4a65c_ok nmJx4a65c (by decide +kernel) rfl dJx4a65c_add_9ea2d_7 (zs_aload_n hX dJx4a65c_add_9ea2d_10 rfl (zs_aload_n hX dJx4a65c_add_9ea2d_11 rfl (zs_aload_n hX dJx4a65c_add_9ea2d_12 rfl (zs_get hX (C := RJx4a65c) (T := TJx4a65c) (N := 3) rfl in_Jx4a65c (by decide) mw_87e553ed dJx4a65c_add_9ea2d_13 (zs_aload_n hX dJx4a65c_add_9ea2d_16 rfl (zs_get hX (C := RJx4a65c) (T := TJx4a65c) (N := 3) rfl in_Jx4a65c (by decide) mw_259fe66e dJx4a65c_add_9ea2d_17 (fun _ _ _ _ _ h => h)))))))))))))
set_option maxRecDepth 20000 in
theorem bJx4a65c_add_9ea2d_20 {X : pz_C} {G : pz_Gx} {sa md mi : Nat} {rm : Room} {E : Option pz_V → pz_H → Prop} (hX : pz_X X cJx4a65c_add_9ea2d 2 RJx4a65c) (hR : pz_Rt X cJx4a65c_add_9ea2d 2 (some .boolean) rm E) (hrm : pz_rm X = rm) (hGX : pz_GX X G) (hOk : pz_O2 G sa md mi) (gh : gt_Jx4a65c_add_72be8) (hr_Jx4a65c_add_72be8 : rm_Jx4a65c_add_72be8.frames + 1 ≤ rm.frames ∧ 8 + (4 + 11) + rm_Jx4a65c_add_72be8.locals ≤ rm.locals) : ∀ lv st g c s, (zo_cV rm 1 3 3 rm_Jx4a65c_add_72be8.cells rm_Jx4a65c_add_72be8.slots (pr_Jx4a65c_add_72be8 sa gh) (po_Jx4a65c_add_72be8 sa gh) (zo_kv (zo_ic 1 (1) (zo_rz rm E)))) 20 lv st g c s → pz_Z X 2 20 lv st g c s := by
  subst hrm
  exact (zs_csV hX hGX (C := RJx4a65c) (T := TJx4a65c) (N := 3) rfl (ct_Jx4a65c_add_72be8 hOk gh) mw_3fcb27c5 mw_a38aec06 mw_d5d3dbb8 mw_dd3bf01c mw_e5da9726 (by decide +kernel) hr_Jx4a65c_add_72be8 dJx4a65c_add_9ea2d_20 (zs_kv (zs_iconst hX dJx4a65c_add_9ea2d_23 (by decide) (zs_rz hR dJx4a65c_add_9ea2d_24))))
def rm_Jx4a65c_add_9ea2d : Room := { frames := 6, cells := 1, slots := 61, locals := 150 }
abbrev gt_Jx4a65c_add_9ea2d : Type := Nat × (List Nat × List Nat) × Nat × Nat × (List Nat × List pz_V) × (Nat → Nat)
def pr_Jx4a65c_add_9ea2d (sa : Nat) : gt_Jx4a65c_add_9ea2d → List pz_V → pz_H → Prop := fun (la, (bl, be), n, x, (bx, fx), hl) av g => av = [.inr (.inr (some (la))), .inr (.inr (some (x)))] ∧ (n ≤ 40 ∧ bl ≠ be ∧ bl ≠ [50] ∧ be ≠ [50] ∧ bx ≠ bl ∧ bx ≠ be) ∧ lsE g la bl be sa n hl ∧ g x = some (bx, .inr (5, fx)) ∧ (∀ i, i < n → ∃ bv fs, g (hl i) = some (bv, .inr (5, fs)) ∧ bv ≠ bl)
def po_Jx4a65c_add_9ea2d (sa : Nat) : gt_Jx4a65c_add_9ea2d → List pz_V → pz_H → Option pz_V → pz_H → Prop := fun (la, (bl, be), n, x, (bx, fx), hl) _ g v g' => v = some (.inl 1) ∧ hg (fun b => b = bl ∨ b = be) g g' ∧ lsE g' la bl be sa (n + 1) (fun i => if i = n then x else hl i)
set_option maxRecDepth 20000 in
theorem ct_Jx4a65c_add_9ea2d {G : pz_Gx} {sa md mi : Nat} (hOk : pz_O2 G sa md mi) (gh : gt_Jx4a65c_add_9ea2d) : pz_M G yJx4a65c_add_9ea2d cJx4a65c_add_9ea2d 2 (some .boolean) rm_Jx4a65c_add_9ea2d (pr_Jx4a65c_add_9ea2d sa gh) (po_Jx4a65c_add_9ea2d sa gh) := by
  obtain ⟨la, ⟨bl, be⟩, n, x, ⟨bx, fx⟩, hl⟩ := gh
  refine pz_ofZ (by decide) hOk.1.1 (Or.inr (Or.inr (Or.inl rfl))) ?_ ?_
  · rintro av g ⟨rfl, -⟩
    exact Nat.le_of_ble_eq_true rfl
  · rintro X hX hGX hrm - av g ⟨rfl, hbs, ⟨h41, mc, ed, cap, o, hla, hc⟩, hx, hel⟩ hR
    obtain ⟨hn, hbe, hb5, he5, hxl, hxe⟩ := id hbs
    refine bJx4a65c_add_9ea2d_0 hX _ _ _ _ _ ⟨rfl, _, _, _, hla, rfl, _, _, hla, Nat.le_of_ble_eq_true rfl, _, _, _, up_at, rfl, _, _, _, up_at, rfl, ?_⟩
    have hh := hg_up (S := fun b => b = bl) (v := some (bl, .inr (1, [.inl (mc + 1), .inr (.inr (some (ed))), .inl (nI n)]))) hg_rf hla rfl
    refine bJx4a65c_add_9ea2d_20 hX hR hrm hGX hOk ((la, (bl, be), n, (ed, cap), o, mc + 1), x, (bx, fx), hl) (by decide) _ _ _ _ _ ⟨Nat.le_of_ble_eq_true rfl, ⟨la, [.inr (.inr (some (x))), .inr (.inr (some (ed))), .inl (nI n)], bl, _, rfl, up_at⟩, Nat.le_of_ble_eq_true rfl, Nat.le_of_ble_eq_true rfl, Nat.le_of_ble_eq_true rfl, ⟨rfl, hbs, up_at, hh _ _ _ hx hxl, fun i hi => ?_, ?_⟩, ?_⟩
    · obtain ⟨bv, fs, h1, h2⟩ := hel i hi
      exact ⟨bv, fs, hh _ _ _ h1 h2⟩
    · rcases hc with ⟨h1, h2, h3, h4⟩ | ⟨h4, h5⟩
      · exact Or.inl ⟨h1, h2, h3, trivial⟩
      · exact Or.inr ⟨hh _ _ _ h4 (fun e => hbe e.symm), h5⟩
    · rintro v g2 ⟨rfl, h1, h2⟩ -
      exact ⟨Or.inr rfl, Nat.le_of_ble_eq_true rfl, Nat.le_of_ble_eq_true rfl, rfl, hg_tr (hg_mono hh (fun b hb => Or.inl hb)) h1, h2⟩
set_option maxRecDepth 20000 in
theorem bJx4a65c_clear_da8c8_0 {X : pz_C} (hX : pz_X X cJx4a65c_clear_da8c8 4 RJx4a65c) : ∀ lv st g c s, (zo_al 1 0 (zo_dup (zo_get 1 0 (zo_ic 1 (1) (zo_iadd (zo_puti 1 0 (zo_al 1 0 (zo_get 1 1 (zo_as 1 1 (zo_al 1 0 (zo_get 1 2 (zo_is 1 2 (zo_al 1 0 (zo_ic 1 (0) (zo_dupx1 (zo_puti 1 2 (zo_is 1 3 (pz_Z X 4)))))))))))))))))) 0 lv st g c s → pz_Z X 4 0 lv st g c s := (zs_aload_n hX dJx4a65c_clear_da8c8_0 rfl (zs_dup hX dJx4a65c_clear_da8c8_1 (zs_getS hX (C := RJx4a65c) (T := TJx4a65c) (N := 3) (ref := "java/util/ArrayList") rfl in_Jx4a65c (by decide) mw_8be908d0 mw_420eb7b3 dJx4a65c_clear_da8c8_2 (zs_iconst hX dJx4a65c_clear_da8c8_5 (by decide) (zs_iadd hX dJx4a65c_clear_da8c8_6 (zs_putiS hX (C := RJx4a65c) (T := TJx4a65c) (N := 3) (ref := "java/util/ArrayList") rfl in_Jx4a65c (by decide) mw_8be908d0 mw_420eb7b3 tyJx4a65c tyJx4a65c_ok nmJx4a65c (by decide +kernel) rfl dJx4a65c_clear_da8c8_7 (zs_aload_n hX dJx4a65c_clear_da8c8_10 rfl (zs_get hX (C := RJx4a65c) (T := TJx4a65c) (N := 3) rfl in_Jx4a65c (by decide) mw_87e553ed dJx4a65c_clear_da8c8_11 (zs_astore_n hX dJx4a65c_clear_da8c8_14 rfl (by decide) (zs_aload_n hX dJx4a65c_clear_da8c8_15 rfl (zs_get hX (C := RJx4a65c) (T := TJx4a65c) (N := 3) rfl in_Jx4a65c (by decide) mw_259fe66e dJx4a65c_clear_da8c8_16 (zs_istore_n hX dJx4a65c_clear_da8c8_19 rfl (by decide) (zs_aload_n hX dJx4a65c_clear_da8c8_20 rfl (zs_iconst hX dJx4a65c_clear_da8c8_21 (by decide) (zs_dupx1 hX dJx4a65c_clear_da8c8_22 (zs_puti hX (C := RJx4a65c) (T := TJx4a65c) (N := 3) rfl in_Jx4a65c (by decide) mw_259fe66e tyJx4a65c tyJx4a65c_ok nmJx4a65c (by decide +kernel) rfl dJx4a65c_clear_da8c8_23 (zs_istore_n hX dJx4a65c_clear_da8c8_26 rfl (by decide) (fun _ _ _ _ _ h => h))))))))))))))))))
set_option maxRecDepth 20000 in
theorem bJx4a65c_clear_da8c8_27 {X : pz_C} (hX : pz_X X cJx4a65c_clear_da8c8 4 RJx4a65c) : ∀ lv st g c s, (zo_il 1 3 (zo_il 1 2 (zo_ic_ge 42 (pz_Z X 4)))) 27 lv st g c s → pz_Z X 4 27 lv st g c s := (zs_iload_n hX dJx4a65c_clear_da8c8_27 rfl (zs_iload_n hX dJx4a65c_clear_da8c8_28 rfl (zs_ic_ge hX dJx4a65c_clear_da8c8_29 (by decide) (fun _ _ _ _ _ _ h => h))))
set_option maxRecDepth 20000 in
theorem bJx4a65c_clear_da8c8_32 {X : pz_C} (hX : pz_X X cJx4a65c_clear_da8c8 4 RJx4a65c) : ∀ lv st g c s, (zo_al 1 1 (zo_il 1 3 (zo_null (zo_astN 5 (zo_inc 3 (1) (zo_goto 27 (pz_Z X 4))))))) 32 lv st g c s → pz_Z X 4 32 lv st g c s := (zs_aload_n hX dJx4a65c_clear_da8c8_32 rfl (zs_iload_n hX dJx4a65c_clear_da8c8_33 rfl (zs_null hX dJx4a65c_clear_da8c8_34 (zs_astN hX (C := "java/lang/Object") (fun _ => rfl) dJx4a65c_clear_da8c8_35 (zs_iinc hX dJx4a65c_clear_da8c8_36 (by decide) (by decide) (zs_goto hX dJx4a65c_clear_da8c8_39 (by decide) (fun _ _ _ _ _ _ h => h)))))))
set_option maxRecDepth 20000 in
theorem bJx4a65c_clear_da8c8_42 {X : pz_C} {rm : Room} {E : Option pz_V → pz_H → Prop} (hX : pz_X X cJx4a65c_clear_da8c8 4 RJx4a65c) (hR : pz_Rt X cJx4a65c_clear_da8c8 4 none rm E) : ∀ lv st g c s, (zo_rv rm E) 42 lv st g c s → pz_Z X 4 42 lv st g c s := (zs_rv hR dJx4a65c_clear_da8c8_42)
def rm_Jx4a65c_clear_da8c8 : Room := { frames := 0, cells := 0, slots := 0, locals := 0 }
abbrev gt_Jx4a65c_clear_da8c8 : Type := Nat × (List Nat × List Nat) × Nat × Nat × (Nat → Nat)
def pr_Jx4a65c_clear_da8c8 : gt_Jx4a65c_clear_da8c8 → List pz_V → pz_H → Prop := fun (la, (bl, be), sa, n, hl) av g => av = [.inr (.inr (some (la)))] ∧ bl ≠ be ∧ bl ≠ [50] ∧ lsE g la bl be sa n hl
def po_Jx4a65c_clear_da8c8 : gt_Jx4a65c_clear_da8c8 → List pz_V → pz_H → Option pz_V → pz_H → Prop := fun (la, (bl, be), sa, n, hl) _ g v g' => v = none ∧ hg (fun b => b = bl ∨ b = be) g g' ∧ lsE g' la bl be sa 0 hl
set_option maxRecDepth 20000 in
theorem ct_Jx4a65c_clear_da8c8 {G : pz_Gx} (hOk : pz_OK G) (gh : gt_Jx4a65c_clear_da8c8) : pz_M G yJx4a65c_clear_da8c8 cJx4a65c_clear_da8c8 4 none rm_Jx4a65c_clear_da8c8 (pr_Jx4a65c_clear_da8c8 gh) (po_Jx4a65c_clear_da8c8 gh) := by
  obtain ⟨la, ⟨bl, be⟩, sa, n, hl⟩ := gh
  refine pz_ofZ (by decide) hOk.1 (Or.inl rfl) ?_ ?_
  · rintro av g ⟨rfl, -⟩
    exact Nat.le_of_ble_eq_true rfl
  · rintro X hX hGX hrm - av g ⟨rfl, hbe, hb5, h41, mc, ed, cap, o, hla, hc⟩ hR
    have hh := hg_up (S := fun b => b = bl ∨ b = be) (v := some (bl, .inr (1, [.inl (mc + 1), .inr (.inr (some (ed))), .inl (nI n)]))) hg_rf hla (Or.inl rfl)
    refine bJx4a65c_clear_da8c8_0 hX _ _ _ _ _ ⟨rfl, _, _, _, hla, rfl, _, _, hla, Nat.le_of_ble_eq_true rfl, _, _, _, up_at, rfl, _, _, _, up_at, rfl, rfl, rfl, _, _, up_at, Nat.le_of_ble_eq_true rfl, ?_⟩
    rw [up_up]
    have hh0 := hg_up (S := fun b => b = bl ∨ b = be) (v := some (bl, .inr (1, [.inl (mc + 1), .inr (.inr (some (ed))), .inl 0]))) hg_rf hla (Or.inl rfl)
    have loop : ∀ (m i : Nat) (g1 : pz_H) (o1 : Nat → Option Nat), i + m = n → hg (fun b => b = bl ∨ b = be) g g1 → g1 la = some (bl, .inr (1, [.inl (mc + 1), .inr (.inr (some (ed))), .inl 0])) → ((ed = sa ∧ n = 0 ∧ cap = 0 ∧ True) ∨ (g1 ed = some (be, ar_r 5 cap o1) ∧ 10 ≤ cap ∧ cap ≤ 61 ∧ n ≤ cap)) → pz_Z X 4 27 [(3, .inl (nI i)), (2, .inl (nI n)), (1, .inr (.inr (some (ed)))), (0, .inr (.inr (some (la))))] [] g1 0 0 := by
      intro m
      induction m with
      | zero =>
        intro i g1 o1 hi h1 h2 h3
        obtain rfl : i = n := by omega
        refine bJx4a65c_clear_da8c8_27 hX _ _ _ _ _ ⟨fun _ => ?_, fun q => absurd (Int32.le_refl _) q⟩
        refine bJx4a65c_clear_da8c8_42 hX hR _ _ _ _ _ ⟨Nat.le_refl _, Nat.le_refl _, rfl, h1, by omega, mc + 1, ed, cap, o1, h2, ?_⟩
        rcases h3 with ⟨e1, e2, e3, e4⟩ | ⟨e1, e2, e3, e4⟩
        · exact Or.inl ⟨e1, rfl, e3, e4⟩
        · exact Or.inr ⟨e1, e2, e3, Nat.zero_le _, fun i hi => absurd hi (Nat.not_lt_zero _)⟩
      | succ m ih =>
        intro i g1 o1 hi h1 h2 h3
        rcases h3 with ⟨e1, e2, e3, e4⟩ | ⟨e1, e2, e3, e4⟩
        · omega
        · refine bJx4a65c_clear_da8c8_27 hX _ _ _ _ _ ⟨fun q => absurd ((ni_le (by omega) (by omega)).mp q) (by omega), fun _ => ?_⟩
          refine bJx4a65c_clear_da8c8_32 hX _ _ _ _ _ ⟨be, cap, o1, e1, ni_in (by omega) (by omega), ?_⟩
          refine pz_lsub (by exact ⟨ni_inc, rfl, rfl, rfl, trivial⟩) (ih (i + 1) _ _ (by omega) (hg_up h1 e1 (Or.inr rfl)) (up_ne h2 e1 hbe) (Or.inr ⟨up_at, e2, e3, e4⟩))
    refine pz_lsub (by exact ⟨rfl, rfl, rfl, rfl, trivial⟩) (loop n 0 _ o (by omega) hh0 up_at ?_)
    rcases hc with ⟨e1, e2, e3, e4⟩ | ⟨e1, e2, e3, e4, _⟩
    · exact Or.inl ⟨e1, e2, e3, trivial⟩
    · exact Or.inr ⟨up_ne e1 hla (fun e => hbe e.symm), e2, e3, e4⟩
