/-! the reference: line, addStop, least, sign, look, fail, blank -/
set_option maxRecDepth 20000 in
theorem bX10_line_0 {X : pz_C} (hX : pz_X X cX10_line 2 RX10) : ∀ lv st g c s, (zo_al 1 0 (zo_il 1 1 (zo_i2l (zo_lc 1 (0) (zo_lc 3 (127) (pz_Z X 2)))))) 0 lv st g c s → pz_Z X 2 0 lv st g c s := (zs_aload_n hX dX10_line_0 rfl (zs_iload_n hX dX10_line_1 rfl (zs_i2l hX dX10_line_2 (zs_lconst hX dX10_line_3 (by decide) (zs_ldc2 hX dX10_line_4 mw_e76aa501 (fun _ _ _ _ _ h => h))))))
set_option maxRecDepth 20000 in
theorem bX10_line_7 {X : pz_C} {G : pz_Gx} {rm : Room} (hX : pz_X X cX10_line 2 RX10) (hrm : pz_rm X = rm) (hGX : pz_GX X G) (hOk : pz_OK G) (gh : gt_X10_within) (hr_X10_within : rm_X10_within.frames + 1 ≤ rm.frames ∧ 8 + (6 + 11) + rm_X10_within.locals ≤ rm.locals) : ∀ lv st g c s, (zo_cs rm 3 3 rm_X10_within.cells rm_X10_within.slots (pr_X10_within gh) (po_X10_within gh) (zo_kz (zo_if_ne 17 (pz_Z X 2)))) 7 lv st g c s → pz_Z X 2 7 lv st g c s := by
  subst hrm
  exact (zs_csS hX hGX (ct_X10_within hOk gh) mw_b2fd6b25 mw_bf52c9cc mw_33939a39 mw_fee1cb2c (by decide +kernel) hr_X10_within dX10_line_7 (zs_kz (zs_if_ne hX dX10_line_10 (by decide) (fun _ _ _ _ _ _ h => h))))
set_option maxRecDepth 20000 in
theorem bX10_line_13 {X : pz_C} (hX : pz_X X cX10_line 2 RX10) : ∀ lv st g c s, (zo_ic 1 (1) (zo_goto 18 (pz_Z X 2))) 13 lv st g c s → pz_Z X 2 13 lv st g c s := (zs_iconst hX dX10_line_13 (by decide) (zs_goto hX dX10_line_14 (by decide) (fun _ _ _ _ _ _ h => h)))
set_option maxRecDepth 20000 in
theorem bX10_line_17 {X : pz_C} (hX : pz_X X cX10_line 2 RX10) : ∀ lv st g c s, (zo_ic 1 (0) (pz_Z X 2)) 17 lv st g c s → pz_Z X 2 17 lv st g c s := (zs_iconst hX dX10_line_17 (by decide) (fun _ _ _ _ _ h => h))
set_option maxRecDepth 20000 in
theorem bX10_line_18 {X : pz_C} (hX : pz_X X cX10_line 2 RX10) : ∀ lv st g c s, (zo_al 1 0 (zo_get 12 1 (zo_ic 2 (40) (zo_ic_ne 31 (pz_Z X 2))))) 18 lv st g c s → pz_Z X 2 18 lv st g c s := (zs_aload_n hX dX10_line_18 rfl (zs_get hX (C := RX10) (T := TX10) (N := 37) rfl in_X10 (by decide) mw_479e8e34 dX10_line_19 (zs_bipush hX dX10_line_22 (by decide) (zs_ic_ne hX dX10_line_24 (by decide) (fun _ _ _ _ _ _ h => h)))))
set_option maxRecDepth 20000 in
theorem bX10_line_27 {X : pz_C} (hX : pz_X X cX10_line 2 RX10) : ∀ lv st g c s, (zo_ic 1 (1) (zo_goto 32 (pz_Z X 2))) 27 lv st g c s → pz_Z X 2 27 lv st g c s := (zs_iconst hX dX10_line_27 (by decide) (zs_goto hX dX10_line_28 (by decide) (fun _ _ _ _ _ _ h => h)))
set_option maxRecDepth 20000 in
theorem bX10_line_31 {X : pz_C} (hX : pz_X X cX10_line 2 RX10) : ∀ lv st g c s, (zo_ic 1 (0) (pz_Z X 2)) 31 lv st g c s → pz_Z X 2 31 lv st g c s := (zs_iconst hX dX10_line_31 (by decide) (fun _ _ _ _ _ h => h))
set_option maxRecDepth 20000 in
theorem bX10_line_32 {X : pz_C} (hX : pz_X X cX10_line 2 RX10) : ∀ lv st g c s, (zo_ic 1 (0) (pz_Z X 2)) 32 lv st g c s → pz_Z X 2 32 lv st g c s := (zs_iconst hX dX10_line_32 (by decide) (fun _ _ _ _ _ h => h))
set_option maxRecDepth 20000 in
theorem bX10_line_33 {X : pz_C} {G : pz_Gx} {rm : Room} (hX : pz_X X cX10_line 2 RX10) (hrm : pz_rm X = rm) (hGX : pz_GX X G) (hOk : pz_OK G) (gh : gt_X10_refused) (hr_X10_refused : rm_X10_refused.frames + 1 ≤ rm.frames ∧ 8 + (4 + 11) + rm_X10_refused.locals ≤ rm.locals) : ∀ lv st g c s, (zo_cV rm 12 3 3 rm_X10_refused.cells rm_X10_refused.slots (pr_X10_refused gh) (po_X10_refused gh) (zo_kz (zo_if_eq 41 (pz_Z X 2)))) 33 lv st g c s → pz_Z X 2 33 lv st g c s := by
  subst hrm
  exact (zs_csV hX hGX (C := RX10) (T := TX10) (N := 37) rfl (ct_X10_refused hOk gh) mw_53c1f8a2 mw_ba17b74c mw_7c91c019 mw_33939a39 mw_471b458e (by decide +kernel) hr_X10_refused dX10_line_33 (zs_kz (zs_if_eq hX dX10_line_36 (by decide) (fun _ _ _ _ _ _ h => h))))
set_option maxRecDepth 20000 in
theorem bX10_line_39 {X : pz_C} {rm : Room} {E : Option pz_V → pz_H → Prop} (hX : pz_X X cX10_line 2 RX10) (hR : pz_Rt X cX10_line 2 (some .int) rm E) : ∀ lv st g c s, (zo_ic 1 (0) (zo_ri rm E)) 39 lv st g c s → pz_Z X 2 39 lv st g c s := (zs_iconst hX dX10_line_39 (by decide) (zs_ri hR dX10_line_40))
set_option maxRecDepth 20000 in
theorem bX10_line_41 {X : pz_C} {rm : Room} {E : Option pz_V → pz_H → Prop} (hX : pz_X X cX10_line 2 RX10) (hR : pz_Rt X cX10_line 2 (some .int) rm E) : ∀ lv st g c s, (zo_al 1 0 (zo_get 12 2 (zo_al 1 0 (zo_get 12 1 (zo_il 1 1 (zo_iast (zo_al 1 0 (zo_get 12 3 (zo_al 1 0 (zo_get 12 1 (zo_ic 1 (0) (zo_iast (zo_al 1 0 (zo_dup (zo_get 12 1 (zo_ic 1 (1) (zo_iadd (zo_puti 12 1 (zo_al 1 0 (zo_get 12 1 (zo_ic 1 (1) (zo_isub (zo_ri rm E))))))))))))))))))))))) 41 lv st g c s → pz_Z X 2 41 lv st g c s := (zs_aload_n hX dX10_line_41 rfl (zs_get hX (C := RX10) (T := TX10) (N := 37) rfl in_X10 (by decide) mw_803dc064 dX10_line_42 (zs_aload_n hX dX10_line_45 rfl (zs_get hX (C := RX10) (T := TX10) (N := 37) rfl in_X10 (by decide) mw_479e8e34 dX10_line_46 (zs_iload_n hX dX10_line_49 rfl (zs_iast hX dX10_line_50 (zs_aload_n hX dX10_line_51 rfl (zs_get hX (C := RX10) (T := TX10) (N := 37) rfl in_X10 (by decide) mw_6c7416b9 dX10_line_52 (zs_aload_n hX dX10_line_55 rfl (zs_get hX (C := RX10) (T := TX10) (N := 37) rfl in_X10 (by decide) mw_479e8e34 dX10_line_56 (zs_iconst hX dX10_line_59 (by decide) (zs_iast hX dX10_line_60 (zs_aload_n hX dX10_line_61 rfl (zs_dup hX dX10_line_62 (zs_get hX (C := RX10) (T := TX10) (N := 37) rfl in_X10 (by decide) mw_479e8e34 dX10_line_63 (zs_iconst hX dX10_line_66 (by decide) (zs_iadd hX dX10_line_67 (zs_puti hX (C := RX10) (T := TX10) (N := 37) rfl in_X10 (by decide) mw_479e8e34 tyX10 tyX10_ok nmX10 (by decide +kernel) rfl dX10_line_68 (zs_aload_n hX dX10_line_71 rfl (zs_get hX (C := RX10) (T := TX10) (N := 37) rfl in_X10 (by decide) mw_479e8e34 dX10_line_72 (zs_iconst hX dX10_line_75 (by decide) (zs_isub hX dX10_line_76 (zs_ri hR dX10_line_77)))))))))))))))))))))))
def rm_X10_line : Room := { frames := 1, cells := 0, slots := 0, locals := 25 }
abbrev gt_X10_line : Type := (Int32 × Nat) × mo_T
def pr_X10_line : gt_X10_line → List pz_V → pz_H → Prop := fun ((x, n), (mo, M, I, Ai, Aj)) av g => av = [.inr (.inr (some mo)), .inl x] ∧ n ≤ 40 ∧ I 1 = nI n ∧ moS g mo M I Ai Aj
def po_X10_line : gt_X10_line → List pz_V → pz_H → Option pz_V → pz_H → Prop := fun ((x, n), (mo, M, I, Ai, Aj)) _ g v g' => hg moL g g' ∧ (((!wi x.toInt64 0 127 || decide (n = 40)) = true ∧ v = some (.inl 0) ∧ moS g' mo M (upd I 0 (rf3 (!wi x.toInt64 0 127) (decide (n = 40)) false)) Ai Aj) ∨ ((!wi x.toInt64 0 127 || decide (n = 40)) = false ∧ v = some (.inl (nI n)) ∧ moS g' mo M (upd (upd I 0 0) 1 (nI (n + 1))) (seqU (seqU Ai 2 (upd (Ai 2) n x)) 3 (upd (Ai 3) n 0)) Aj))
set_option maxRecDepth 20000 in
set_option maxHeartbeats 4000000 in
theorem ct_X10_line {G : pz_Gx} (hOk : pz_OK G) (gh : gt_X10_line) : pz_M G yX10_line cX10_line 2 (some .int) rm_X10_line (pr_X10_line gh) (po_X10_line gh) := by
  obtain ⟨⟨x, n⟩, mo, M, I, Ai, Aj⟩ := gh
  refine pz_ofZ (by decide) hOk.1 (Or.inr (Or.inl rfl)) ?_ ?_
  · rintro av g ⟨rfl, -⟩
    exact Nat.le_of_ble_eq_true rfl
  · rintro X hX hGX hrm - av g ⟨rfl, hn, hI, hm⟩ hR
    have h1 := hm.1
    have at33 : ∀ (a b : Bool), a = !wi x.toInt64 0 127 → b = decide (n = 40) → pz_Z X 2 33 [(0, .inr (.inr (some mo))), (1, .inl x)] [.inl 0, .inl (b01 b), .inl (b01 a), .inr (.inr (some mo))] g 0 0 := by
      intro a b ha hb
      refine bX10_line_33 hX hrm hGX hOk ((mo, a, b, false), M, I) (by decide) _ _ _ _ _ ⟨Nat.le_of_ble_eq_true rfl, ⟨mo, [.inl (b01 a), .inl (b01 b), .inl 0], [100], _, rfl, h1⟩, Nat.le_of_ble_eq_true rfl, Nat.le_of_ble_eq_true rfl, Nat.le_of_ble_eq_true rfl, ⟨rfl, h1⟩, ?_⟩
      rintro v g2 ⟨rfl, rfl⟩ y hy -
      cases hy
      rw [Bool.or_false]
      obtain ⟨hm2, hS2⟩ := mo_f hm 0 (by decide) (rf3 a b false)
      refine ⟨fun q => ?_, fun q => ?_⟩
      · rw [b01_z] at q
        have hq := Bool.or_eq_false_iff.mp q
        have hn40 : n < 40 := by
          have := of_decide_eq_false (hb ▸ hq.2)
          omega
        rw [show rf3 a b false = 0 by rw [hq.1, hq.2]; rfl] at hm2 hS2 ⊢
        have hi2 : vp_in (upd I 0 0 1) 40 := by rw [pk_un (by decide), hI]; exact ni_in hn40 (by omega)
        have hc2 : (upd I 0 0 1).toNatClampNeg = n := by rw [pk_un (by decide), hI]; exact ni_cl (by omega)
        have m2 : va_up g mo (some ([100], .inr (12, (mo_fs I M).set 0 (.inl 0)))) (M 2) = some ([101, 2], ar_i 40 (Ai 2)) := hm2.2.1 2 (by decide)
        obtain ⟨hm3, hS3⟩ := mo_i hm2 2 (by decide) (upd (Ai 2) n x)
        have e0 : (mo_fs I M).set 0 (.inl 0) = mo_fs (upd I 0 0) M := mo_set 0 (by decide) 0
        rw [e0] at hm2 hm3 hS2 hS3 m2 ⊢
        refine bX10_line_41 hX hR _ _ _ _ _ ⟨_, _, _, hm2.1, rfl, _, _, _, hm2.1, rfl, _, _, _, m2, hi2, ?_⟩
        rw [hc2]
        have m3 : va_up (va_up g mo (some ([100], .inr (12, mo_fs (upd I 0 0) M)))) (M 2) (some ([101, 2], ar_i (mo_ln 2) (upd (Ai 2) n x))) (M 3) = some ([101, 3], ar_i 40 (Ai 3)) := hm3.2.1 3 (by decide)
        obtain ⟨hm4, hS4⟩ := mo_i hm3 3 (by decide) (upd (Ai 3) n 0)
        refine ⟨_, _, _, hm3.1, rfl, _, _, _, hm3.1, rfl, _, _, _, m3, hi2, ?_⟩
        rw [hc2]
        obtain ⟨hm5, hS5⟩ := mo_f hm4 1 (by decide) (upd I 0 0 1 + 1)
        have e1 : (mo_fs (upd I 0 0) M).set 1 (.inl (upd I 0 0 1 + 1)) = mo_fs (upd (upd I 0 0) 1 (upd I 0 0 1 + 1)) M := mo_set 1 (by decide) _
        have e2 : upd I 0 0 1 + 1 = nI (n + 1) := by rw [pk_un (by decide), hI, nI_1]
        refine ⟨rfl, _, _, _, hm4.1, rfl, _, _, hm4.1, Nat.le_of_ble_eq_true rfl, ?_⟩
        rw [e1, e2] at hm5 hS5
        rw [e1, e2]
        refine ⟨_, _, _, hm5.1, rfl, Nat.le_refl _, Nat.le_refl _, hg_tr hS2 (hg_tr hS3 (hg_tr hS4 hS5)), Or.inr ⟨by rw [← ha, ← hb]; exact q, ?_, hm5⟩⟩
        show some (Sum.inl (upd (upd I 0 0) 1 (nI (n + 1)) 1 - 1)) = some (Sum.inl (nI n))
        rw [pk_us, ni_pred (n := n + 1) (by omega)]
        rfl
      · rw [b01_nz] at q
        exact bX10_line_39 hX hR _ _ _ _ _ ⟨Nat.le_refl _, Nat.le_refl _, hS2, Or.inl ⟨by rw [← ha, ← hb]; exact q, rfl, by rw [← ha, ← hb]; exact hm2⟩⟩
    have at18 : ∀ (a : Bool), a = !wi x.toInt64 0 127 → pz_Z X 2 18 [(0, .inr (.inr (some mo))), (1, .inl x)] [.inl (b01 a), .inr (.inr (some mo))] g 0 0 := by
      intro a ha
      refine bX10_line_18 hX _ _ _ _ _ ⟨_, _, _, h1, rfl, fun q => ?_, fun q => ?_⟩
      · refine bX10_line_31 hX _ _ _ _ _ ?_
        refine bX10_line_32 hX _ _ _ _ _ ?_
        exact at33 a false ha (decide_eq_false (fun e => q (by rw [hI, e]; rfl))).symm
      · refine bX10_line_27 hX _ _ _ _ _ ?_
        refine bX10_line_32 hX _ _ _ _ _ ?_
        exact at33 a true ha (decide_eq_true (ni_inj (by omega) (by omega) (show nI n = nI 40 by rw [← hI]; exact q))).symm
    refine bX10_line_0 hX _ _ _ _ _ ?_
    refine bX10_line_7 hX hrm hGX hOk (x.toInt64, 0, 127) (by decide) _ _ _ _ _ ⟨Nat.le_of_ble_eq_true rfl, Nat.le_of_ble_eq_true rfl, Nat.le_of_ble_eq_true rfl, Nat.le_of_ble_eq_true rfl, rfl, ?_⟩
    rintro v g2 ⟨rfl, rfl⟩ y hy -
    cases hy
    refine ⟨fun q => ?_, fun q => ?_⟩
    · rw [b01_nz] at q
      refine bX10_line_17 hX _ _ _ _ _ ?_
      exact at18 false (by rw [q]; rfl)
    · rw [b01_z] at q
      refine bX10_line_13 hX _ _ _ _ _ ?_
      exact at18 true (by rw [q]; rfl)
set_option maxRecDepth 20000 in
theorem bX10_addStop_0 {X : pz_C} {rm : Room} {E : Option pz_V → pz_H → Prop} (hX : pz_X X cX10_addStop 8 RX10) (hR : pz_Rt X cX10_addStop 8 none rm E) : ∀ lv st g c s, (zo_ic 2 (12) (zo_il 1 1 (zo_imul (zo_al 1 0 (zo_get 12 3 (zo_il 1 1 (zo_iald (zo_iadd (zo_is 2 7 (zo_al 1 0 (zo_get 12 4 (zo_il 2 7 (zo_il 1 2 (zo_iast (zo_al 1 0 (zo_get 12 5 (zo_il 2 7 (zo_ll 1 3 (zo_last (zo_al 1 0 (zo_get 12 6 (zo_il 2 7 (zo_ll 2 5 (zo_last (zo_al 1 0 (zo_get 12 3 (zo_il 1 1 (zo_dup2 (zo_iald (zo_ic 1 (1) (zo_iadd (zo_iast (zo_rv rm E))))))))))))))))))))))))))))))))) 0 lv st g c s → pz_Z X 8 0 lv st g c s := (zs_bipush hX dX10_addStop_0 (by decide) (zs_iload_n hX dX10_addStop_2 rfl (zs_imul hX dX10_addStop_3 (zs_aload_n hX dX10_addStop_4 rfl (zs_get hX (C := RX10) (T := TX10) (N := 37) rfl in_X10 (by decide) mw_6c7416b9 dX10_addStop_5 (zs_iload_n hX dX10_addStop_8 rfl (zs_iald hX dX10_addStop_9 (zs_iadd hX dX10_addStop_10 (zs_istore hX dX10_addStop_11 (by decide) (zs_aload_n hX dX10_addStop_13 rfl (zs_get hX (C := RX10) (T := TX10) (N := 37) rfl in_X10 (by decide) mw_d81b3427 dX10_addStop_14 (zs_iload hX dX10_addStop_17 (zs_iload_n hX dX10_addStop_19 rfl (zs_iast hX dX10_addStop_20 (zs_aload_n hX dX10_addStop_21 rfl (zs_get hX (C := RX10) (T := TX10) (N := 37) rfl in_X10 (by decide) mw_6426076d dX10_addStop_22 (zs_iload hX dX10_addStop_25 (zs_lload_n hX dX10_addStop_27 rfl (zs_last hX dX10_addStop_28 (zs_aload_n hX dX10_addStop_29 rfl (zs_get hX (C := RX10) (T := TX10) (N := 37) rfl in_X10 (by decide) mw_7b8e4d38 dX10_addStop_30 (zs_iload hX dX10_addStop_33 (zs_lload hX dX10_addStop_35 (zs_last hX dX10_addStop_37 (zs_aload_n hX dX10_addStop_38 rfl (zs_get hX (C := RX10) (T := TX10) (N := 37) rfl in_X10 (by decide) mw_6c7416b9 dX10_addStop_39 (zs_iload_n hX dX10_addStop_42 rfl (zs_dup2 hX dX10_addStop_43 (zs_iald hX dX10_addStop_44 (zs_iconst hX dX10_addStop_45 (by decide) (zs_iadd hX dX10_addStop_46 (zs_iast hX dX10_addStop_47 (zs_rv hR dX10_addStop_48)))))))))))))))))))))))))))))))))
def rm_X10_addStop : Room := { frames := 0, cells := 0, slots := 0, locals := 0 }
abbrev gt_X10_addStop : Type := (Nat × Int32 × Int64 × Int64 × Nat) × mo_T
def pr_X10_addStop : gt_X10_addStop → List pz_V → pz_H → Prop := fun ((l, p, a, b, n), (mo, M, I, Ai, Aj)) av g => av = [.inr (.inr (some mo)), .inl (nI l), .inl p, .inr (.inl a), .inr (.inl b)] ∧ l < 40 ∧ n < 12 ∧ Ai 3 l = nI n ∧ moS g mo M I Ai Aj
def mo_as (Ai : Nat → Nat → Int32) (l n : Nat) (p : Int32) : Nat → Nat → Int32 := seqU (seqU Ai 4 (upd (Ai 4) (12 * l + n) p)) 3 (upd (Ai 3) l (nI (n + 1)))
def mo_aj (Aj : Nat → Nat → Int64) (l n : Nat) (a b : Int64) : Nat → Nat → Int64 := seqJ (seqJ Aj 5 (vp_updL (Aj 5) (12 * l + n) a)) 6 (vp_updL (Aj 6) (12 * l + n) b)
def po_X10_addStop : gt_X10_addStop → List pz_V → pz_H → Option pz_V → pz_H → Prop := fun ((l, p, a, b, n), (mo, M, I, Ai, Aj)) _ g v g' => v = none ∧ hg moL g g' ∧ moS g' mo M I (mo_as Ai l n p) (mo_aj Aj l n a b)
set_option maxRecDepth 20000 in
set_option maxHeartbeats 4000000 in
theorem ct_X10_addStop {G : pz_Gx} (hOk : pz_OK G) (gh : gt_X10_addStop) : pz_M G yX10_addStop cX10_addStop 8 none rm_X10_addStop (pr_X10_addStop gh) (po_X10_addStop gh) := by
  obtain ⟨⟨l, p, a, b, n⟩, mo, M, I, Ai, Aj⟩ := gh
  refine pz_ofZ (by decide) hOk.1 (Or.inl rfl) ?_ ?_
  · rintro av g ⟨rfl, -⟩
    exact Nat.le_of_ble_eq_true rfl
  · rintro X hX hGX hrm - av g ⟨rfl, hl, hn, hA3, hm⟩ hR
    have hlc : (nI l).toNatClampNeg = l := ni_cl (by omega)
    have hli : vp_in (nI l) 40 := ni_in (by omega) (by omega)
    have m3 : g (M 3) = some ([101, 3], ar_i 40 (Ai 3)) := hm.2.1 3 (by decide)
    have m4 : g (M 4) = some ([101, 4], ar_i 480 (Ai 4)) := hm.2.1 4 (by decide)
    have hac : (nI (12 * l + n)).toNatClampNeg = 12 * l + n := ni_cl (by omega)
    have hai : vp_in (nI (12 * l + n)) 480 := ni_in (by omega) (by omega)
    obtain ⟨hm1, hS1⟩ := mo_i hm 4 (by decide) (upd (Ai 4) (12 * l + n) p)
    obtain ⟨hm2, hS2⟩ := mo_j hm1 5 (by decide) (vp_updL (Aj 5) (12 * l + n) a)
    obtain ⟨hm3, hS3⟩ := mo_j hm2 6 (by decide) (vp_updL (Aj 6) (12 * l + n) b)
    obtain ⟨hm4, hS4⟩ := mo_i hm3 3 (by decide) (upd (Ai 3) l (nI (n + 1)))
    refine bX10_addStop_0 hX hR _ _ _ _ _ ⟨_, _, _, hm.1, rfl, _, _, _, m3, hli, ?_⟩
    rw [hlc, hA3, show (12 : Int32) * nI l = nI (12 * l) from pk_mul 12 l]
    rw [← nI_add] at hac hai
    refine ⟨_, _, _, hm.1, rfl, _, _, _, m4, hai, ?_⟩
    rw [hac]
    refine ⟨_, _, _, hm1.1, rfl, _, _, _, hm1.2.2.2 5 (by decide), hai, ?_⟩
    rw [hac]
    refine ⟨_, _, _, hm2.1, rfl, _, _, _, hm2.2.2.2 6 (by decide), hai, ?_⟩
    rw [hac]
    refine ⟨_, _, _, hm3.1, rfl, rfl, rfl, _, _, _, hm3.2.1 3 (by decide), hli, _, _, _, hm3.2.1 3 (by decide), hli, Nat.le_refl _, Nat.le_refl _, rfl, ?_⟩
    rw [hlc, show seqU Ai 4 (upd (Ai 4) (12 * l + n) p) 3 = Ai 3 from rfl, hA3, nI_1]
    exact ⟨hg_tr hS1 (hg_tr hS2 (hg_tr hS3 hS4)), hm4⟩
set_option maxRecDepth 20000 in
theorem bX10_least_0 {X : pz_C} (hX : pz_X X cX10_least 5 RX10) : ∀ lv st g c s, (zo_al 1 0 (zo_il 1 1 (pz_Z X 5))) 0 lv st g c s → pz_Z X 5 0 lv st g c s := (zs_aload_n hX dX10_least_0 rfl (zs_iload_n hX dX10_least_1 rfl (fun _ _ _ _ _ h => h)))
set_option maxRecDepth 20000 in
theorem bX10_least_2 {X : pz_C} {G : pz_Gx} {rm : Room} (hX : pz_X X cX10_least 5 RX10) (hrm : pz_rm X = rm) (hGX : pz_GX X G) (hOk : pz_OK G) (gh : gt_X10_isPlace) (hr_X10_isPlace : rm_X10_isPlace.frames + 1 ≤ rm.frames ∧ 8 + (1 + 11) + rm_X10_isPlace.locals ≤ rm.locals) : ∀ lv st g c s, (zo_cs rm 1 3 rm_X10_isPlace.cells rm_X10_isPlace.slots (pr_X10_isPlace gh) (po_X10_isPlace gh) (zo_kz (zo_if_ne 12 (pz_Z X 5)))) 2 lv st g c s → pz_Z X 5 2 lv st g c s := by
  subst hrm
  exact (zs_csS hX hGX (ct_X10_isPlace hOk gh) mw_57aced96 mw_2d6024eb mw_33939a39 mw_b2184c85 (by decide +kernel) hr_X10_isPlace dX10_least_2 (zs_kz (zs_if_ne hX dX10_least_5 (by decide) (fun _ _ _ _ _ _ h => h))))
set_option maxRecDepth 20000 in
theorem bX10_least_8 {X : pz_C} (hX : pz_X X cX10_least 5 RX10) : ∀ lv st g c s, (zo_ic 1 (1) (zo_goto 13 (pz_Z X 5))) 8 lv st g c s → pz_Z X 5 8 lv st g c s := (zs_iconst hX dX10_least_8 (by decide) (zs_goto hX dX10_least_9 (by decide) (fun _ _ _ _ _ _ h => h)))
set_option maxRecDepth 20000 in
theorem bX10_least_12 {X : pz_C} (hX : pz_X X cX10_least 5 RX10) : ∀ lv st g c s, (zo_ic 1 (0) (pz_Z X 5)) 12 lv st g c s → pz_Z X 5 12 lv st g c s := (zs_iconst hX dX10_least_12 (by decide) (fun _ _ _ _ _ h => h))
set_option maxRecDepth 20000 in
theorem bX10_least_13 {X : pz_C} (hX : pz_X X cX10_least 5 RX10) : ∀ lv st g c s, (zo_ll 1 2 (zo_lc 1 (0) (zo_lc 3 (100000) (pz_Z X 5)))) 13 lv st g c s → pz_Z X 5 13 lv st g c s := (zs_lload_n hX dX10_least_13 rfl (zs_lconst hX dX10_least_14 (by decide) (zs_ldc2 hX dX10_least_15 mw_e15ddb53 (fun _ _ _ _ _ h => h))))
set_option maxRecDepth 20000 in
theorem bX10_least_18 {X : pz_C} {G : pz_Gx} {rm : Room} (hX : pz_X X cX10_least 5 RX10) (hrm : pz_rm X = rm) (hGX : pz_GX X G) (hOk : pz_OK G) (gh : gt_X10_within) (hr_X10_within : rm_X10_within.frames + 1 ≤ rm.frames ∧ 8 + (6 + 11) + rm_X10_within.locals ≤ rm.locals) : ∀ lv st g c s, (zo_cs rm 3 3 rm_X10_within.cells rm_X10_within.slots (pr_X10_within gh) (po_X10_within gh) (zo_kz (zo_if_ne 28 (pz_Z X 5)))) 18 lv st g c s → pz_Z X 5 18 lv st g c s := by
  subst hrm
  exact (zs_csS hX hGX (ct_X10_within hOk gh) mw_b2fd6b25 mw_bf52c9cc mw_33939a39 mw_fee1cb2c (by decide +kernel) hr_X10_within dX10_least_18 (zs_kz (zs_if_ne hX dX10_least_21 (by decide) (fun _ _ _ _ _ _ h => h))))
set_option maxRecDepth 20000 in
theorem bX10_least_24 {X : pz_C} (hX : pz_X X cX10_least 5 RX10) : ∀ lv st g c s, (zo_ic 1 (1) (zo_goto 29 (pz_Z X 5))) 24 lv st g c s → pz_Z X 5 24 lv st g c s := (zs_iconst hX dX10_least_24 (by decide) (zs_goto hX dX10_least_25 (by decide) (fun _ _ _ _ _ _ h => h)))
set_option maxRecDepth 20000 in
theorem bX10_least_28 {X : pz_C} (hX : pz_X X cX10_least 5 RX10) : ∀ lv st g c s, (zo_ic 1 (0) (pz_Z X 5)) 28 lv st g c s → pz_Z X 5 28 lv st g c s := (zs_iconst hX dX10_least_28 (by decide) (fun _ _ _ _ _ h => h))
set_option maxRecDepth 20000 in
theorem bX10_least_29 {X : pz_C} (hX : pz_X X cX10_least 5 RX10) : ∀ lv st g c s, (zo_ic 1 (0) (pz_Z X 5)) 29 lv st g c s → pz_Z X 5 29 lv st g c s := (zs_iconst hX dX10_least_29 (by decide) (fun _ _ _ _ _ h => h))
set_option maxRecDepth 20000 in
theorem bX10_least_30 {X : pz_C} {G : pz_Gx} {rm : Room} (hX : pz_X X cX10_least 5 RX10) (hrm : pz_rm X = rm) (hGX : pz_GX X G) (hOk : pz_OK G) (gh : gt_X10_refused) (hr_X10_refused : rm_X10_refused.frames + 1 ≤ rm.frames ∧ 8 + (4 + 11) + rm_X10_refused.locals ≤ rm.locals) : ∀ lv st g c s, (zo_cV rm 12 3 3 rm_X10_refused.cells rm_X10_refused.slots (pr_X10_refused gh) (po_X10_refused gh) (zo_kz (zo_if_eq 38 (pz_Z X 5)))) 30 lv st g c s → pz_Z X 5 30 lv st g c s := by
  subst hrm
  exact (zs_csV hX hGX (C := RX10) (T := TX10) (N := 37) rfl (ct_X10_refused hOk gh) mw_53c1f8a2 mw_ba17b74c mw_7c91c019 mw_33939a39 mw_471b458e (by decide +kernel) hr_X10_refused dX10_least_30 (zs_kz (zs_if_eq hX dX10_least_33 (by decide) (fun _ _ _ _ _ _ h => h))))
set_option maxRecDepth 20000 in
theorem bX10_least_36 {X : pz_C} {rm : Room} {E : Option pz_V → pz_H → Prop} (hX : pz_X X cX10_least 5 RX10) (hR : pz_Rt X cX10_least 5 (some .int) rm E) : ∀ lv st g c s, (zo_ic 1 (0) (zo_ri rm E)) 36 lv st g c s → pz_Z X 5 36 lv st g c s := (zs_iconst hX dX10_least_36 (by decide) (zs_ri hR dX10_least_37))
set_option maxRecDepth 20000 in
theorem bX10_least_38 {X : pz_C} {rm : Room} {E : Option pz_V → pz_H → Prop} (hX : pz_X X cX10_least 5 RX10) (hR : pz_Rt X cX10_least 5 (some .int) rm E) : ∀ lv st g c s, (zo_al 1 0 (zo_get 12 20 (zo_il 1 1 (zo_iald (zo_is 2 4 (zo_al 1 0 (zo_get 12 20 (zo_il 1 1 (zo_ll 1 2 (zo_l2i (zo_iast (zo_il 2 4 (zo_ri rm E))))))))))))) 38 lv st g c s → pz_Z X 5 38 lv st g c s := (zs_aload_n hX dX10_least_38 rfl (zs_get hX (C := RX10) (T := TX10) (N := 37) rfl in_X10 (by decide) mw_1b6f5ecd dX10_least_39 (zs_iload_n hX dX10_least_42 rfl (zs_iald hX dX10_least_43 (zs_istore hX dX10_least_44 (by decide) (zs_aload_n hX dX10_least_46 rfl (zs_get hX (C := RX10) (T := TX10) (N := 37) rfl in_X10 (by decide) mw_1b6f5ecd dX10_least_47 (zs_iload_n hX dX10_least_50 rfl (zs_lload_n hX dX10_least_51 rfl (zs_l2i hX dX10_least_52 (zs_iast hX dX10_least_53 (zs_iload hX dX10_least_54 (zs_ri hR dX10_least_56)))))))))))))
def rm_X10_least : Room := { frames := 2, cells := 0, slots := 0, locals := 45 }
abbrev gt_X10_least : Type := (Int32 × Int64) × mo_T
def pr_X10_least : gt_X10_least → List pz_V → pz_H → Prop := fun ((p, x), (mo, M, I, Ai, Aj)) av g => av = [.inr (.inr (some mo)), .inl p, .inr (.inl x)] ∧ moS g mo M I Ai Aj
def po_X10_least : gt_X10_least → List pz_V → pz_H → Option pz_V → pz_H → Prop := fun ((p, x), (mo, M, I, Ai, Aj)) _ g v g' => hg moL g g' ∧ (((!wi p.toInt64 0 99 || !wi x 0 100000) = true ∧ v = some (.inl 0) ∧ moS g' mo M (upd I 0 (rf3 (!wi p.toInt64 0 99) (!wi x 0 100000) false)) Ai Aj) ∨ ((!wi p.toInt64 0 99 || !wi x 0 100000) = false ∧ ∃ q, q < 100 ∧ p = nI q ∧ v = some (.inl (Ai 20 q)) ∧ moS g' mo M (upd I 0 0) (seqU Ai 20 (upd (Ai 20) q x.toInt32)) Aj))
theorem wi_nI {p : Int32} {k : Nat} (hk : k ≤ 1000000) (h : wi p.toInt64 0 (lN k) = true) : ∃ q, q ≤ k ∧ p = nI q := by
  unfold wi at h
  rw [Bool.and_eq_true] at h
  have h0 := of_decide_eq_true h.1
  have h1 := of_decide_eq_true h.2
  rw [Int64.le_iff_toInt_le, Int32.toInt_toInt64] at h0 h1
  rw [lN_toInt (by omega)] at h1
  have hp : ¬ p < 0 := by
    rw [Int32.lt_iff_toInt_lt]
    have : (0 : Int64).toInt = 0 := rfl
    have : (0 : Int32).toInt = 0 := rfl
    omega
  obtain ⟨j, hj, rfl⟩ := nI_of hp
  rw [nI_toInt hj] at h1
  exact ⟨j, by omega, rfl⟩
set_option maxRecDepth 20000 in
set_option maxHeartbeats 4000000 in
theorem ct_X10_least {G : pz_Gx} (hOk : pz_OK G) (gh : gt_X10_least) : pz_M G yX10_least cX10_least 5 (some .int) rm_X10_least (pr_X10_least gh) (po_X10_least gh) := by
  obtain ⟨⟨p, x⟩, mo, M, I, Ai, Aj⟩ := gh
  refine pz_ofZ (by decide) hOk.1 (Or.inr (Or.inl rfl)) ?_ ?_
  · rintro av g ⟨rfl, -⟩
    exact Nat.le_of_ble_eq_true rfl
  · rintro X hX hGX hrm - av g ⟨rfl, hm⟩ hR
    have h1 := hm.1
    have at30 : ∀ (a b : Bool), a = !wi p.toInt64 0 99 → b = !wi x 0 100000 → pz_Z X 5 30 [(0, .inr (.inr (some mo))), (1, .inl p), (2, .inr (.inl x))] [.inl 0, .inl (b01 b), .inl (b01 a), .inr (.inr (some mo))] g 0 0 := by
      intro a b ha hb
      refine bX10_least_30 hX hrm hGX hOk ((mo, a, b, false), M, I) (by decide) _ _ _ _ _ ⟨Nat.le_of_ble_eq_true rfl, ⟨mo, [.inl (b01 a), .inl (b01 b), .inl 0], [100], _, rfl, h1⟩, Nat.le_of_ble_eq_true rfl, Nat.le_of_ble_eq_true rfl, Nat.le_of_ble_eq_true rfl, ⟨rfl, h1⟩, ?_⟩
      rintro v g2 ⟨rfl, rfl⟩ y hy -
      cases hy
      rw [Bool.or_false]
      obtain ⟨hm2, hS2⟩ := mo_f hm 0 (by decide) (rf3 a b false)
      refine ⟨fun q => ?_, fun q => ?_⟩
      · rw [b01_z] at q
        have hq := Bool.or_eq_false_iff.mp q
        rw [show rf3 a b false = 0 by rw [hq.1, hq.2]; rfl] at hm2 hS2 ⊢
        obtain ⟨pp, hpp, rfl⟩ : ∃ q, q ≤ 99 ∧ p = nI q := wi_nI (by omega) (by
          have h9 : wi p.toInt64 0 99 = true := by
            have := ha ▸ hq.1
            simpa using this
          exact h9)
        have m20 : va_up g mo (some ([100], .inr (12, (mo_fs I M).set 0 (.inl 0)))) (M 20) = some ([101, 20], ar_i 100 (Ai 20)) := hm2.2.1 20 (by decide)
        obtain ⟨hm3, hS3⟩ := mo_i hm2 20 (by decide) (upd (Ai 20) pp x.toInt32)
        have e0 : (mo_fs I M).set 0 (.inl 0) = mo_fs (upd I 0 0) M := mo_set 0 (by decide) 0
        rw [e0] at hm2 hm3 hS2 hS3 m20 ⊢
        have hpc : (nI pp).toNatClampNeg = pp := ni_cl (by omega)
        have hpi : vp_in (nI pp) 100 := ni_in (by omega) (by omega)
        refine bX10_least_38 hX hR _ _ _ _ _ ⟨_, _, _, hm2.1, rfl, _, _, _, m20, hpi, _, _, _, hm2.1, rfl, _, _, _, m20, hpi, Nat.le_refl _, Nat.le_refl _, ?_⟩
        rw [hpc]
        exact ⟨hg_tr hS2 hS3, Or.inr ⟨by rw [← ha, ← hb]; exact q, pp, by omega, rfl, rfl, hm3⟩⟩
      · rw [b01_nz] at q
        exact bX10_least_36 hX hR _ _ _ _ _ ⟨Nat.le_refl _, Nat.le_refl _, hS2, Or.inl ⟨by rw [← ha, ← hb]; exact q, rfl, by rw [← ha, ← hb]; exact hm2⟩⟩
    have at13 : ∀ (a : Bool), a = !wi p.toInt64 0 99 → pz_Z X 5 13 [(0, .inr (.inr (some mo))), (1, .inl p), (2, .inr (.inl x))] [.inl (b01 a), .inr (.inr (some mo))] g 0 0 := by
      intro a ha
      refine bX10_least_13 hX _ _ _ _ _ ?_
      refine bX10_least_18 hX hrm hGX hOk (x, 0, 100000) (by decide) _ _ _ _ _ ⟨Nat.le_of_ble_eq_true rfl, Nat.le_of_ble_eq_true rfl, Nat.le_of_ble_eq_true rfl, Nat.le_of_ble_eq_true rfl, rfl, ?_⟩
      rintro v g2 ⟨rfl, rfl⟩ y hy -
      cases hy
      refine ⟨fun q => ?_, fun q => ?_⟩
      · rw [b01_nz] at q
        refine bX10_least_28 hX _ _ _ _ _ ?_
        refine bX10_least_29 hX _ _ _ _ _ ?_
        exact at30 a false ha (by rw [q]; rfl)
      · rw [b01_z] at q
        refine bX10_least_24 hX _ _ _ _ _ ?_
        refine bX10_least_29 hX _ _ _ _ _ ?_
        exact at30 a true ha (by rw [q]; rfl)
    refine bX10_least_0 hX _ _ _ _ _ ?_
    refine bX10_least_2 hX hrm hGX hOk p (by decide) _ _ _ _ _ ⟨Nat.le_of_ble_eq_true rfl, Nat.le_of_ble_eq_true rfl, Nat.le_of_ble_eq_true rfl, Nat.le_of_ble_eq_true rfl, rfl, ?_⟩
    rintro v g2 ⟨rfl, rfl⟩ y hy -
    cases hy
    refine ⟨fun q => ?_, fun q => ?_⟩
    · rw [b01_nz] at q
      refine bX10_least_12 hX _ _ _ _ _ ?_
      exact at13 false (by rw [q]; rfl)
    · rw [b01_z] at q
      refine bX10_least_8 hX _ _ _ _ _ ?_
      exact at13 true (by rw [q]; rfl)
