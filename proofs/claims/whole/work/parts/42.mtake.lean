/-! the reference: timeAt, take, isLeg, ready -/
theorem ix_12 (l s : Nat) : (12 : Int32) * nI l + nI s = nI (12 * l + s) := by
  rw [show (12 : Int32) = nI 12 from rfl, pk_mul, nI_add]
theorem ix_100 (l s : Nat) : (100 : Int32) * nI l + nI s = nI (100 * l + s) := by
  rw [show (100 : Int32) = nI 100 from rfl, pk_mul, nI_add]
def mt_t (Ai : Nat → Nat → Int32) (Aj : Nat → Nat → Int64) (nz nw l : Nat) (d : Int64) (s : Nat) (lv : Bool) : Int64 := 86400 * d + (if lv = true then Aj 6 (12 * l + s) else Aj 5 (12 * l + s)) - 60 * (mm_v (Ai 14) (mm_k (Ai 12) (Aj 13) (Ai 4 (12 * l + s)) (86400 * d) nz)).toInt64 + ml_k Ai Aj (nI l) (nI s) d nw
set_option maxRecDepth 20000 in
theorem bX10_timeAt_0 {X : pz_C} (hX : pz_X X cX10_timeAt 7 RX10) : ∀ lv st g c s, (zo_ic 2 (12) (zo_il 1 1 (zo_imul (zo_il 2 4 (zo_iadd (zo_is 2 6 (zo_lc 3 (86400) (zo_ll 1 2 (zo_lmul (zo_il 2 5 (zo_if_eq 29 (pz_Z X 7)))))))))))) 0 lv st g c s → pz_Z X 7 0 lv st g c s := (zs_bipush hX dX10_timeAt_0 (by decide) (zs_iload_n hX dX10_timeAt_2 rfl (zs_imul hX dX10_timeAt_3 (zs_iload hX dX10_timeAt_4 (zs_iadd hX dX10_timeAt_6 (zs_istore hX dX10_timeAt_7 (by decide) (zs_ldc2 hX dX10_timeAt_9 mw_e93d3cab (zs_lload_n hX dX10_timeAt_12 rfl (zs_lmul hX dX10_timeAt_13 (zs_iload hX dX10_timeAt_14 (zs_if_eq hX dX10_timeAt_16 (by decide) (fun _ _ _ _ _ _ h => h))))))))))))
set_option maxRecDepth 20000 in
theorem bX10_timeAt_19 {X : pz_C} (hX : pz_X X cX10_timeAt 7 RX10) : ∀ lv st g c s, (zo_al 1 0 (zo_get 12 6 (zo_il 2 6 (zo_lald (zo_goto 36 (pz_Z X 7)))))) 19 lv st g c s → pz_Z X 7 19 lv st g c s := (zs_aload_n hX dX10_timeAt_19 rfl (zs_get hX (C := RX10) (T := TX10) (N := 37) rfl in_X10 (by decide) mw_7b8e4d38 dX10_timeAt_20 (zs_iload hX dX10_timeAt_23 (zs_lald hX dX10_timeAt_25 (zs_goto hX dX10_timeAt_26 (by decide) (fun _ _ _ _ _ _ h => h))))))
set_option maxRecDepth 20000 in
theorem bX10_timeAt_29 {X : pz_C} (hX : pz_X X cX10_timeAt 7 RX10) : ∀ lv st g c s, (zo_al 1 0 (zo_get 12 5 (zo_il 2 6 (zo_lald (pz_Z X 7))))) 29 lv st g c s → pz_Z X 7 29 lv st g c s := (zs_aload_n hX dX10_timeAt_29 rfl (zs_get hX (C := RX10) (T := TX10) (N := 37) rfl in_X10 (by decide) mw_6426076d dX10_timeAt_30 (zs_iload hX dX10_timeAt_33 (zs_lald hX dX10_timeAt_35 (fun _ _ _ _ _ h => h)))))
set_option maxRecDepth 20000 in
theorem bX10_timeAt_36 {X : pz_C} (hX : pz_X X cX10_timeAt 7 RX10) : ∀ lv st g c s, (zo_ladd (zo_lc 3 (60) (zo_al 1 0 (zo_al 1 0 (zo_get 12 4 (zo_il 2 6 (zo_iald (zo_ll 1 2 (pz_Z X 7))))))))) 36 lv st g c s → pz_Z X 7 36 lv st g c s := (zs_ladd hX dX10_timeAt_36 (zs_ldc2 hX dX10_timeAt_37 mw_197b32cd (zs_aload_n hX dX10_timeAt_40 rfl (zs_aload_n hX dX10_timeAt_41 rfl (zs_get hX (C := RX10) (T := TX10) (N := 37) rfl in_X10 (by decide) mw_d81b3427 dX10_timeAt_42 (zs_iload hX dX10_timeAt_45 (zs_iald hX dX10_timeAt_47 (zs_lload_n hX dX10_timeAt_48 rfl (fun _ _ _ _ _ h => h)))))))))
set_option maxRecDepth 20000 in
theorem bX10_timeAt_49 {X : pz_C} {G : pz_Gx} {rm : Room} (hX : pz_X X cX10_timeAt 7 RX10) (hrm : pz_rm X = rm) (hGX : pz_GX X G) (hOk : pz_OK G) (gh : gt_X10_minutesAt) (hr_X10_minutesAt : rm_X10_minutesAt.frames + 1 ≤ rm.frames ∧ 8 + (9 + 11) + rm_X10_minutesAt.locals ≤ rm.locals) : ∀ lv st g c s, (zo_cV rm 12 2 3 rm_X10_minutesAt.cells rm_X10_minutesAt.slots (pr_X10_minutesAt gh) (po_X10_minutesAt gh) (zo_ki (zo_i2l (zo_lmul (zo_lsub (zo_al 1 0 (zo_il 1 1 (zo_il 2 4 (zo_ll 1 2 (pz_Z X 7)))))))))) 49 lv st g c s → pz_Z X 7 49 lv st g c s := by
  subst hrm
  exact (zs_csV hX hGX (C := RX10) (T := TX10) (N := 37) rfl (ct_X10_minutesAt hOk gh) mw_9e54ffa4 mw_c4b49a2c mw_8d466a6e mw_33939a39 mw_49535ec6 (by decide +kernel) hr_X10_minutesAt dX10_timeAt_49 (zs_ki (zs_i2l hX dX10_timeAt_52 (zs_lmul hX dX10_timeAt_53 (zs_lsub hX dX10_timeAt_54 (zs_aload_n hX dX10_timeAt_55 rfl (zs_iload_n hX dX10_timeAt_56 rfl (zs_iload hX dX10_timeAt_57 (zs_lload_n hX dX10_timeAt_59 rfl (fun _ _ _ _ _ h => h))))))))))
set_option maxRecDepth 20000 in
theorem bX10_timeAt_60 {X : pz_C} {G : pz_Gx} {rm : Room} {E : Option pz_V → pz_H → Prop} (hX : pz_X X cX10_timeAt 7 RX10) (hR : pz_Rt X cX10_timeAt 7 (some .long) rm E) (hrm : pz_rm X = rm) (hGX : pz_GX X G) (hOk : pz_OK G) (gh : gt_X10_lateAt) (hr_X10_lateAt : rm_X10_lateAt.frames + 1 ≤ rm.frames ∧ 8 + (8 + 11) + rm_X10_lateAt.locals ≤ rm.locals) : ∀ lv st g c s, (zo_cV rm 12 3 3 rm_X10_lateAt.cells rm_X10_lateAt.slots (pr_X10_lateAt gh) (po_X10_lateAt gh) (zo_kl (zo_ladd (zo_rl rm E)))) 60 lv st g c s → pz_Z X 7 60 lv st g c s := by
  subst hrm
  exact (zs_csV hX hGX (C := RX10) (T := TX10) (N := 37) rfl (ct_X10_lateAt hOk gh) mw_dd6aea58 mw_70f902e8 mw_a97a7539 mw_33939a39 mw_e37def5a (by decide +kernel) hr_X10_lateAt dX10_timeAt_60 (zs_kl (zs_ladd hX dX10_timeAt_63 (zs_rl hR dX10_timeAt_64))))
def rm_X10_timeAt : Room := { frames := 1, cells := 0, slots := 0, locals := 28 }
abbrev gt_X10_timeAt : Type := (Nat × Int64 × Nat × Bool) × (Nat × Nat) × mo_T
def pr_X10_timeAt : gt_X10_timeAt → List pz_V → pz_H → Prop := fun ((l, d, s, lv), (nz, nw), (mo, M, I, Ai, Aj)) av g => av = [.inr (.inr (some mo)), .inl (nI l), .inr (.inl d), .inl (nI s), .inl (b01 lv)] ∧ l < 40 ∧ s < 12 ∧ I 11 = nI nz ∧ nz ≤ 100 ∧ I 15 = nI nw ∧ nw ≤ 100 ∧ moS g mo M I Ai Aj
def po_X10_timeAt : gt_X10_timeAt → List pz_V → pz_H → Option pz_V → pz_H → Prop := fun ((l, d, s, lv), (nz, nw), (_, _, _, Ai, Aj)) _ g v g' => g' = g ∧ v = some (.inr (.inl (mt_t Ai Aj nz nw l d s lv)))
set_option maxRecDepth 20000 in
set_option maxHeartbeats 4000000 in
theorem ct_X10_timeAt {G : pz_Gx} (hOk : pz_OK G) (gh : gt_X10_timeAt) : pz_M G yX10_timeAt cX10_timeAt 7 (some .long) rm_X10_timeAt (pr_X10_timeAt gh) (po_X10_timeAt gh) := by
  obtain ⟨⟨l, d, s, lv⟩, ⟨nz, nw⟩, mo, M, I, Ai, Aj⟩ := gh
  refine pz_ofZ (by decide) hOk.1 (Or.inr (Or.inr (Or.inr (Or.inl rfl)))) ?_ ?_
  · rintro av g ⟨rfl, -⟩
    exact Nat.le_of_ble_eq_true rfl
  · rintro X hX hGX hrm - av g ⟨rfl, hl, hs, hnz, hnz100, hnw, hnw100, hm⟩ hR
    obtain ⟨h1, hi, hz, hj⟩ := id hm
    have h4 : g (M 4) = some ([101, 4], ar_i 480 (Ai 4)) := hi 4 (by decide)
    have h5 : g (M 5) = some ([101, 5], ar_j 480 (Aj 5)) := hj 5 (by decide)
    have h6 : g (M 6) = some ([101, 6], ar_j 480 (Aj 6)) := hj 6 (by decide)
    have hac : (nI (12 * l + s)).toNatClampNeg = 12 * l + s := ni_cl (by omega)
    have hai : vp_in (nI (12 * l + s)) 480 := ni_in (by omega) (by omega)
    have fin : ∀ x : Int64, x = (if lv = true then Aj 6 (12 * l + s) else Aj 5 (12 * l + s)) → pz_Z X 7 36 [(6, .inl (nI (12 * l + s))), (0, .inr (.inr (some mo))), (1, .inl (nI l)), (2, .inr (.inl d)), (4, .inl (nI s))] [.inr (.inl x), .inr (.inl (86400 * d))] g 0 0 := by
      intro x hx
      refine bX10_timeAt_36 hX _ _ _ _ _ ⟨_, _, _, h1, rfl, _, _, _, h4, hai, ?_⟩
      rw [hac]
      refine bX10_timeAt_49 hX hrm hGX hOk ((Ai 4 (12 * l + s), d, nz), (mo, M, I, Ai, Aj)) (by decide) _ _ _ _ _ ⟨Nat.le_of_ble_eq_true rfl, ⟨mo, [.inl (Ai 4 (12 * l + s)), .inr (.inl d)], [100], _, rfl, h1⟩, Nat.le_of_ble_eq_true rfl, Nat.le_of_ble_eq_true rfl, Nat.le_of_ble_eq_true rfl, ⟨rfl, hnz, hnz100, hm⟩, ?_⟩
      rintro v g2 ⟨rfl, rfl⟩ y hy
      cases hy
      refine bX10_timeAt_60 hX hR hrm hGX hOk ((nI l, nI s, d, nw), (mo, M, I, Ai, Aj)) (by decide) _ _ _ _ _ ⟨Nat.le_of_ble_eq_true rfl, ⟨mo, [.inl (nI l), .inl (nI s), .inr (.inl d)], [100], _, rfl, h1⟩, Nat.le_of_ble_eq_true rfl, Nat.le_of_ble_eq_true rfl, Nat.le_of_ble_eq_true rfl, ⟨rfl, hnw, hnw100, hm⟩, ?_⟩
      rintro v g3 ⟨rfl, rfl⟩ y hy
      cases hy
      refine ⟨Nat.le_refl _, Nat.le_refl _, rfl, ?_⟩
      rw [hx]
      rfl
    refine bX10_timeAt_0 hX _ _ _ _ _ ⟨fun q => ?_, fun q => ?_⟩
    · rw [b01_z] at q
      refine pz_lsub (lv' := [(6, .inl (nI (12 * l + s))), (0, .inr (.inr (some mo))), (1, .inl (nI l)), (2, .inr (.inl d)), (4, .inl (nI s))]) ⟨(show some (Sum.inl ((12 : Int32) * nI l + nI s) : pz_V) = some (Sum.inl (nI (12 * l + s))) by rw [ix_12]), rfl, rfl, rfl, rfl, trivial⟩ ?_
      refine bX10_timeAt_29 hX _ _ _ _ _ ⟨_, _, _, h1, rfl, _, _, _, h5, hai, ?_⟩
      rw [hac]
      exact fin _ (by rw [q]; rfl)
    · rw [b01_nz] at q
      refine pz_lsub (lv' := [(6, .inl (nI (12 * l + s))), (0, .inr (.inr (some mo))), (1, .inl (nI l)), (2, .inr (.inl d)), (4, .inl (nI s))]) ⟨(show some (Sum.inl ((12 : Int32) * nI l + nI s) : pz_V) = some (Sum.inl (nI (12 * l + s))) by rw [ix_12]), rfl, rfl, rfl, rfl, trivial⟩ ?_
      refine bX10_timeAt_19 hX _ _ _ _ _ ⟨_, _, _, h1, rfl, _, _, _, h6, hai, ?_⟩
      rw [hac]
      exact fin _ (by rw [q]; rfl)
set_option maxRecDepth 20000 in
theorem bX10_take_0 {X : pz_C} (hX : pz_X X cX10_take 5 RX10) : ∀ lv st g c s, (zo_al 1 0 (zo_il 1 1 (zo_ll 1 2 (pz_Z X 5)))) 0 lv st g c s → pz_Z X 5 0 lv st g c s := (zs_aload_n hX dX10_take_0 rfl (zs_iload_n hX dX10_take_1 rfl (zs_lload_n hX dX10_take_2 rfl (fun _ _ _ _ _ h => h))))
set_option maxRecDepth 20000 in
theorem bX10_take_3 {X : pz_C} {G : pz_Gx} {rm : Room} (hX : pz_X X cX10_take 5 RX10) (hrm : pz_rm X = rm) (hGX : pz_GX X G) (hOk : pz_OK G) (gh : gt_X10_runs) (hr_X10_runs : rm_X10_runs.frames + 1 ≤ rm.frames ∧ 8 + (5 + 11) + rm_X10_runs.locals ≤ rm.locals) : ∀ lv st g c s, (zo_cV rm 12 2 3 rm_X10_runs.cells rm_X10_runs.slots (pr_X10_runs gh) (po_X10_runs gh) (zo_kz (zo_if_ne 11 (pz_Z X 5)))) 3 lv st g c s → pz_Z X 5 3 lv st g c s := by
  subst hrm
  exact (zs_csV hX hGX (C := RX10) (T := TX10) (N := 37) rfl (ct_X10_runs hOk gh) mw_9ebc38e8 mw_c828406e mw_a96dd931 mw_33939a39 mw_774f2974 (by decide +kernel) hr_X10_runs dX10_take_3 (zs_kz (zs_if_ne hX dX10_take_6 (by decide) (fun _ _ _ _ _ _ h => h))))
set_option maxRecDepth 20000 in
theorem bX10_take_9 {X : pz_C} {rm : Room} {E : Option pz_V → pz_H → Prop} (hX : pz_X X cX10_take 5 RX10) (hR : pz_Rt X cX10_take 5 (some .boolean) rm E) : ∀ lv st g c s, (zo_ic 1 (0) (zo_rz rm E)) 9 lv st g c s → pz_Z X 5 9 lv st g c s := (zs_iconst hX dX10_take_9 (by decide) (zs_rz hR dX10_take_10))
set_option maxRecDepth 20000 in
theorem bX10_take_11 {X : pz_C} (hX : pz_X X cX10_take 5 RX10) : ∀ lv st g c s, (zo_ic 1 (0) (zo_is 2 4 (pz_Z X 5))) 11 lv st g c s → pz_Z X 5 11 lv st g c s := (zs_iconst hX dX10_take_11 (by decide) (zs_istore hX dX10_take_12 (by decide) (fun _ _ _ _ _ h => h)))
set_option maxRecDepth 20000 in
theorem bX10_take_14 {X : pz_C} (hX : pz_X X cX10_take 5 RX10) : ∀ lv st g c s, (zo_il 2 4 (zo_al 1 0 (zo_get 12 3 (zo_il 1 1 (zo_iald (zo_ic_ge 63 (pz_Z X 5))))))) 14 lv st g c s → pz_Z X 5 14 lv st g c s := (zs_iload hX dX10_take_14 (zs_aload_n hX dX10_take_16 rfl (zs_get hX (C := RX10) (T := TX10) (N := 37) rfl in_X10 (by decide) mw_6c7416b9 dX10_take_17 (zs_iload_n hX dX10_take_20 rfl (zs_iald hX dX10_take_21 (zs_ic_ge hX dX10_take_22 (by decide) (fun _ _ _ _ _ _ h => h)))))))
set_option maxRecDepth 20000 in
theorem bX10_take_25 {X : pz_C} (hX : pz_X X cX10_take 5 RX10) : ∀ lv st g c s, (zo_al 1 0 (zo_get 12 29 (zo_il 2 4 (zo_al 1 0 (zo_il 1 1 (zo_ll 1 2 (zo_il 2 4 (zo_ic 1 (0) (pz_Z X 5))))))))) 25 lv st g c s → pz_Z X 5 25 lv st g c s := (zs_aload_n hX dX10_take_25 rfl (zs_get hX (C := RX10) (T := TX10) (N := 37) rfl in_X10 (by decide) mw_4cf35770 dX10_take_26 (zs_iload hX dX10_take_29 (zs_aload_n hX dX10_take_31 rfl (zs_iload_n hX dX10_take_32 rfl (zs_lload_n hX dX10_take_33 rfl (zs_iload hX dX10_take_34 (zs_iconst hX dX10_take_36 (by decide) (fun _ _ _ _ _ h => h)))))))))
set_option maxRecDepth 20000 in
theorem bX10_take_37 {X : pz_C} {G : pz_Gx} {rm : Room} (hX : pz_X X cX10_take 5 RX10) (hrm : pz_rm X = rm) (hGX : pz_GX X G) (hOk : pz_OK G) (gh : gt_X10_timeAt) (hr_X10_timeAt : rm_X10_timeAt.frames + 1 ≤ rm.frames ∧ 8 + (7 + 11) + rm_X10_timeAt.locals ≤ rm.locals) : ∀ lv st g c s, (zo_cV rm 12 4 3 rm_X10_timeAt.cells rm_X10_timeAt.slots (pr_X10_timeAt gh) (po_X10_timeAt gh) (zo_kl (zo_last (zo_al 1 0 (zo_get 12 30 (zo_il 2 4 (zo_al 1 0 (zo_il 1 1 (zo_ll 1 2 (zo_il 2 4 (zo_ic 1 (1) (pz_Z X 5)))))))))))) 37 lv st g c s → pz_Z X 5 37 lv st g c s := by
  subst hrm
  exact (zs_csV hX hGX (C := RX10) (T := TX10) (N := 37) rfl (ct_X10_timeAt hOk gh) mw_711bf8ae mw_615ae78b mw_7ec4fd9a mw_33939a39 mw_b6d174ac (by decide +kernel) hr_X10_timeAt dX10_take_37 (zs_kl (zs_last hX dX10_take_40 (zs_aload_n hX dX10_take_41 rfl (zs_get hX (C := RX10) (T := TX10) (N := 37) rfl in_X10 (by decide) mw_664a2ed3 dX10_take_42 (zs_iload hX dX10_take_45 (zs_aload_n hX dX10_take_47 rfl (zs_iload_n hX dX10_take_48 rfl (zs_lload_n hX dX10_take_49 rfl (zs_iload hX dX10_take_50 (zs_iconst hX dX10_take_52 (by decide) (fun _ _ _ _ _ h => h))))))))))))
set_option maxRecDepth 20000 in
theorem bX10_take_53 {X : pz_C} {G : pz_Gx} {rm : Room} (hX : pz_X X cX10_take 5 RX10) (hrm : pz_rm X = rm) (hGX : pz_GX X G) (hOk : pz_OK G) (gh : gt_X10_timeAt) (hr_X10_timeAt : rm_X10_timeAt.frames + 1 ≤ rm.frames ∧ 8 + (7 + 11) + rm_X10_timeAt.locals ≤ rm.locals) : ∀ lv st g c s, (zo_cV rm 12 4 3 rm_X10_timeAt.cells rm_X10_timeAt.slots (pr_X10_timeAt gh) (po_X10_timeAt gh) (zo_kl (zo_last (zo_inc 4 (1) (zo_goto 14 (pz_Z X 5)))))) 53 lv st g c s → pz_Z X 5 53 lv st g c s := by
  subst hrm
  exact (zs_csV hX hGX (C := RX10) (T := TX10) (N := 37) rfl (ct_X10_timeAt hOk gh) mw_711bf8ae mw_615ae78b mw_7ec4fd9a mw_33939a39 mw_b6d174ac (by decide +kernel) hr_X10_timeAt dX10_take_53 (zs_kl (zs_last hX dX10_take_56 (zs_iinc hX dX10_take_57 (by decide) (by decide) (zs_goto hX dX10_take_60 (by decide) (fun _ _ _ _ _ _ h => h))))))
set_option maxRecDepth 20000 in
theorem bX10_take_63 {X : pz_C} {rm : Room} {E : Option pz_V → pz_H → Prop} (hX : pz_X X cX10_take 5 RX10) (hR : pz_Rt X cX10_take 5 (some .boolean) rm E) : ∀ lv st g c s, (zo_ic 1 (1) (zo_rz rm E)) 63 lv st g c s → pz_Z X 5 63 lv st g c s := (zs_iconst hX dX10_take_63 (by decide) (zs_rz hR dX10_take_64))
theorem mr_01 {Ai : Nat → Nat → Int32} {Aj : Nat → Nat → Int64} {ne l : Nat} {d : Int64} (h : ∀ k, k < ne → Ai 10 k = 0 ∨ Ai 10 k = 1) : mr_run Ai Aj ne l d = 0 ∨ mr_run Ai Aj ne l d = 1 := by
  unfold mr_run
  split
  · exact Or.inl rfl
  · cases hq : fs_s (mr_p Ai Aj (nI l) d) 0 ne with
    | none =>
      dsimp only
      split
      · exact Or.inr rfl
      · exact Or.inl rfl
    | some k => exact h k (by have := fs_lt hq; omega)
/-- what take leaves: the arrays in and out hold the run's times -/
def rm_X10_take : Room := { frames := 2, cells := 0, slots := 0, locals := 54 }
abbrev gt_X10_take : Type := (Nat × Int64) × (Nat × Nat × Nat × Nat) × mo_T
def pr_X10_take : gt_X10_take → List pz_V → pz_H → Prop := fun ((l, d), (ne, nz, nw, n), (mo, M, I, Ai, Aj)) av g => av = [.inr (.inr (some mo)), .inl (nI l), .inr (.inl d)] ∧ l < 40 ∧ I 7 = nI ne ∧ ne ≤ 100 ∧ (∀ k, k < ne → Ai 10 k = 0 ∨ Ai 10 k = 1) ∧ I 11 = nI nz ∧ nz ≤ 100 ∧ I 15 = nI nw ∧ nw ≤ 100 ∧ Ai 3 l = nI n ∧ n ≤ 12 ∧ moS g mo M I Ai Aj
def po_X10_take : gt_X10_take → List pz_V → pz_H → Option pz_V → pz_H → Prop := fun ((l, d), (ne, nz, nw, n), (mo, M, I, Ai, Aj)) _ g v g' => v = some (.inl (mr_run Ai Aj ne l d)) ∧ hg moL g g' ∧ ∃ fi fo : Nat → Int64, moS g' mo M I Ai (seqJ (seqJ Aj 29 fi) 30 fo) ∧ (mr_run Ai Aj ne l d = 1 → ∀ k, k < n → fi k = mt_t Ai Aj nz nw l d k false ∧ fo k = mt_t Ai Aj nz nw l d k true)
theorem ml_seq {Ai : Nat → Nat → Int32} {Aj : Nat → Nat → Int64} {l s : Int32} {d : Int64} {fi fo : Nat → Int64} : ∀ k, ml_k Ai (seqJ (seqJ Aj 29 fi) 30 fo) l s d k = ml_k Ai Aj l s d k
  | 0 => rfl
  | k + 1 => by
    unfold ml_k
    rw [ml_seq k]
    rfl
theorem mt_seq {Ai : Nat → Nat → Int32} {Aj : Nat → Nat → Int64} {nz nw l : Nat} {d : Int64} {s : Nat} {lv : Bool} {fi fo : Nat → Int64} : mt_t Ai (seqJ (seqJ Aj 29 fi) 30 fo) nz nw l d s lv = mt_t Ai Aj nz nw l d s lv := by
  unfold mt_t
  rw [ml_seq]
  rfl
theorem seqJ_un {Aj : Nat → Nat → Int64} : seqJ (seqJ Aj 29 (Aj 29)) 30 (Aj 30) = Aj := by
  funext i
  unfold seqJ
  split
  · subst_vars; rfl
  · split
    · subst_vars; rfl
    · rfl
theorem seqJ_2i {Aj : Nat → Nat → Int64} {fi fo x : Nat → Int64} : seqJ (seqJ (seqJ Aj 29 fi) 30 fo) 29 x = seqJ (seqJ Aj 29 x) 30 fo := by
  funext i
  unfold seqJ
  by_cases h1 : i = 29
  · subst h1; rfl
  · by_cases h2 : i = 30
    · subst h2; rfl
    · rw [if_neg h1, if_neg h2, if_neg h1, if_neg h2, if_neg h1]
theorem seqJ_2o {Aj : Nat → Nat → Int64} {fi fo x : Nat → Int64} : seqJ (seqJ (seqJ Aj 29 fi) 30 fo) 30 x = seqJ (seqJ Aj 29 fi) 30 x := by
  funext i
  unfold seqJ
  by_cases h2 : i = 30
  · subst h2; rfl
  · rw [if_neg h2, if_neg h2, if_neg h2]
set_option maxRecDepth 20000 in
set_option maxHeartbeats 4000000 in
theorem ct_X10_take {G : pz_Gx} (hOk : pz_OK G) (gh : gt_X10_take) : pz_M G yX10_take cX10_take 5 (some .boolean) rm_X10_take (pr_X10_take gh) (po_X10_take gh) := by
  obtain ⟨⟨l, d⟩, ⟨ne, nz, nw, n⟩, mo, M, I, Ai, Aj⟩ := gh
  refine pz_ofZ (by decide) hOk.1 (Or.inr (Or.inr (Or.inl rfl))) ?_ ?_
  · rintro av g ⟨rfl, -⟩
    exact Nat.le_of_ble_eq_true rfl
  · rintro X hX hGX hrm - av g ⟨rfl, hl, hne, hne100, h01, hnz, hnz100, hnw, hnw100, hn, hn12, hm⟩ hR
    refine bX10_take_0 hX _ _ _ _ _ ?_
    refine bX10_take_3 hX hrm hGX hOk ((l, d, ne), (mo, M, I, Ai, Aj)) (by decide) _ _ _ _ _ ⟨Nat.le_of_ble_eq_true rfl, ⟨mo, [.inl (nI l), .inr (.inl d)], [100], _, rfl, hm.1⟩, Nat.le_of_ble_eq_true rfl, Nat.le_of_ble_eq_true rfl, Nat.le_of_ble_eq_true rfl, ⟨rfl, hl, hne, hne100, h01, hm⟩, ?_⟩
    rintro v g' ⟨rfl, rfl⟩ x hx h01r
    cases hx
    refine ⟨fun q => ?_, fun q => ?_⟩
    · have hr1 : mr_run Ai Aj ne l d = 1 := h01r.resolve_left q
      have loop : ∀ (m k : Nat) (fi fo : Nat → Int64) (gk : pz_H), k + m = n → hg moL g' gk → moS gk mo M I Ai (seqJ (seqJ Aj 29 fi) 30 fo) → (∀ j, j < k → fi j = mt_t Ai Aj nz nw l d j false ∧ fo j = mt_t Ai Aj nz nw l d j true) → pz_Z X 5 14 [(4, .inl (nI k)), (0, .inr (.inr (some mo))), (1, .inl (nI l)), (2, .inr (.inl d))] [] gk 0 0 := by
        intro m
        induction m with
        | zero =>
          intro k fi fo gk hk hS hmk hf
          obtain rfl : k = n := by omega
          have h3 : gk (M 3) = some ([101, 3], ar_i 40 (Ai 3)) := hmk.2.1 3 (by decide)
          refine bX10_take_14 hX _ _ _ _ _ ⟨_, _, _, hmk.1, rfl, _, _, _, h3, ni_in hl (by omega), ?_⟩
          rw [ni_cl (by omega), hn]
          refine ⟨fun _ => ?_, fun q2 => absurd (Int32.le_refl _) q2⟩
          exact bX10_take_63 hX hR _ _ _ _ _ ⟨Or.inr rfl, Nat.le_refl _, Nat.le_refl _, by rw [hr1], hS, fi, fo, hmk, fun _ => hf⟩
        | succ m ih =>
          intro k fi fo gk hk hS hmk hf
          have h3 : gk (M 3) = some ([101, 3], ar_i 40 (Ai 3)) := hmk.2.1 3 (by decide)
          have hkc : (nI k).toNatClampNeg = k := ni_cl (by omega)
          have hki : vp_in (nI k) 12 := ni_in (by omega) (by omega)
          refine bX10_take_14 hX _ _ _ _ _ ⟨_, _, _, hmk.1, rfl, _, _, _, h3, ni_in hl (by omega), ?_⟩
          rw [ni_cl (j := l) (by omega), hn]
          refine ⟨fun q2 => absurd ((ni_le (by omega) (by omega)).mp q2) (by omega), fun _ => ?_⟩
          refine bX10_take_25 hX _ _ _ _ _ ⟨_, _, _, hmk.1, rfl, ?_⟩
          refine bX10_take_37 hX hrm hGX hOk ((l, d, k, false), (nz, nw), (mo, M, I, Ai, seqJ (seqJ Aj 29 fi) 30 fo)) (by decide) _ _ _ _ _ ⟨Nat.le_of_ble_eq_true rfl, ⟨mo, [.inl (nI l), .inr (.inl d), .inl (nI k), .inl 0], [100], _, rfl, hmk.1⟩, Nat.le_of_ble_eq_true rfl, Nat.le_of_ble_eq_true rfl, Nat.le_of_ble_eq_true rfl, ⟨rfl, hl, by omega, hnz, hnz100, hnw, hnw100, hmk⟩, ?_⟩
          rintro v g2 ⟨rfl, rfl⟩ y hy
          cases hy
          rw [mt_seq]
          have h29 : g2 (M 29) = some ([101, 29], ar_j 12 fi) := hmk.2.2.2 29 (by decide)
          obtain ⟨hm2, hS2⟩ := mo_j hmk 29 (by decide) (vp_updL fi k (mt_t Ai Aj nz nw l d k false))
          rw [seqJ_2i] at hm2
          refine ⟨_, _, _, h29, hki, ?_⟩
          rw [hkc]
          refine ⟨_, _, _, hm2.1, rfl, ?_⟩
          refine bX10_take_53 hX hrm hGX hOk ((l, d, k, true), (nz, nw), (mo, M, I, Ai, seqJ (seqJ Aj 29 (vp_updL fi k (mt_t Ai Aj nz nw l d k false))) 30 fo)) (by decide) _ _ _ _ _ ⟨Nat.le_of_ble_eq_true rfl, ⟨mo, [.inl (nI l), .inr (.inl d), .inl (nI k), .inl 1], [100], _, rfl, hm2.1⟩, Nat.le_of_ble_eq_true rfl, Nat.le_of_ble_eq_true rfl, Nat.le_of_ble_eq_true rfl, ⟨rfl, hl, by omega, hnz, hnz100, hnw, hnw100, hm2⟩, ?_⟩
          rintro v g3 ⟨rfl, rfl⟩ y hy
          cases hy
          rw [mt_seq]
          have h30 : va_up g2 (M 29) (some ([101, 29], ar_j (mo_ln 29) (vp_updL fi k (mt_t Ai Aj nz nw l d k false)))) (M 30) = some ([101, 30], ar_j 12 fo) := hm2.2.2.2 30 (by decide)
          obtain ⟨hm3, hS3⟩ := mo_j hm2 30 (by decide) (vp_updL fo k (mt_t Ai Aj nz nw l d k true))
          rw [seqJ_2o] at hm3
          refine ⟨_, _, _, h30, hki, ?_⟩
          rw [hkc]
          refine pz_lsub (lv' := [(4, .inl (nI (k + 1))), (0, .inr (.inr (some mo))), (1, .inl (nI l)), (2, .inr (.inl d))]) ⟨ni_inc, rfl, rfl, rfl, trivial⟩ ?_
          refine ih (k + 1) _ _ _ (by omega) (hg_tr hS (hg_tr hS2 hS3)) hm3 (fun j hj => ?_)
          by_cases e : j = k
          · subst e; exact ⟨pk_uLs, pk_uLs⟩
          · rw [pk_uLn e, pk_uLn e]; exact hf j (by omega)
      refine bX10_take_11 hX _ _ _ _ _ ?_
      refine pz_lsub (lv' := [(4, .inl (nI 0)), (0, .inr (.inr (some mo))), (1, .inl (nI l)), (2, .inr (.inl d))]) ⟨rfl, rfl, rfl, rfl, trivial⟩ ?_
      exact loop n 0 (Aj 29) (Aj 30) g' (by omega) hg_rf (by rw [seqJ_un]; exact hm) (fun j hj => absurd hj (Nat.not_lt_zero j))
    · refine bX10_take_9 hX hR _ _ _ _ _ ⟨Or.inl rfl, Nat.le_refl _, Nat.le_refl _, by rw [q], hg_rf, Aj 29, Aj 30, by rw [seqJ_un]; exact hm, fun h => ?_⟩
      rw [q] at h
      exact absurd h (by decide)
set_option maxRecDepth 20000 in
theorem bX10_isLeg_0 {X : pz_C} (hX : pz_X X cX10_isLeg 3 RX10) : ∀ lv st g c s, (zo_al 1 0 (zo_get 12 29 (zo_il 1 2 (zo_lald (zo_al 1 0 (zo_get 12 30 (zo_il 1 1 (zo_lald (zo_lcmp (zo_if_lt 20 (pz_Z X 3))))))))))) 0 lv st g c s → pz_Z X 3 0 lv st g c s := (zs_aload_n hX dX10_isLeg_0 rfl (zs_get hX (C := RX10) (T := TX10) (N := 37) rfl in_X10 (by decide) mw_4cf35770 dX10_isLeg_1 (zs_iload_n hX dX10_isLeg_4 rfl (zs_lald hX dX10_isLeg_5 (zs_aload_n hX dX10_isLeg_6 rfl (zs_get hX (C := RX10) (T := TX10) (N := 37) rfl in_X10 (by decide) mw_664a2ed3 dX10_isLeg_7 (zs_iload_n hX dX10_isLeg_10 rfl (zs_lald hX dX10_isLeg_11 (zs_lcmp hX dX10_isLeg_12 (zs_if_lt hX dX10_isLeg_13 (by decide) (fun _ _ _ _ _ _ h => h)))))))))))
set_option maxRecDepth 20000 in
theorem bX10_isLeg_16 {X : pz_C} (hX : pz_X X cX10_isLeg 3 RX10) : ∀ lv st g c s, (zo_ic 1 (1) (zo_goto 21 (pz_Z X 3))) 16 lv st g c s → pz_Z X 3 16 lv st g c s := (zs_iconst hX dX10_isLeg_16 (by decide) (zs_goto hX dX10_isLeg_17 (by decide) (fun _ _ _ _ _ _ h => h)))
set_option maxRecDepth 20000 in
theorem bX10_isLeg_20 {X : pz_C} (hX : pz_X X cX10_isLeg 3 RX10) : ∀ lv st g c s, (zo_ic 1 (0) (pz_Z X 3)) 20 lv st g c s → pz_Z X 3 20 lv st g c s := (zs_iconst hX dX10_isLeg_20 (by decide) (fun _ _ _ _ _ h => h))
set_option maxRecDepth 20000 in
theorem bX10_isLeg_21 {X : pz_C} {rm : Room} {E : Option pz_V → pz_H → Prop} (hX : pz_X X cX10_isLeg 3 RX10) (hR : pz_Rt X cX10_isLeg 3 (some .boolean) rm E) : ∀ lv st g c s, (zo_rz rm E) 21 lv st g c s → pz_Z X 3 21 lv st g c s := (zs_rz hR dX10_isLeg_21)
set_option maxRecDepth 20000 in
theorem bX10_ready_0 {X : pz_C} (hX : pz_X X cX10_ready 8 RX10) : ∀ lv st g c s, (zo_il 1 2 (zo_il 1 3 (zo_ic_ne 8 (pz_Z X 8)))) 0 lv st g c s → pz_Z X 8 0 lv st g c s := (zs_iload_n hX dX10_ready_0 rfl (zs_iload_n hX dX10_ready_1 rfl (zs_ic_ne hX dX10_ready_2 (by decide) (fun _ _ _ _ _ _ h => h))))
set_option maxRecDepth 20000 in
theorem bX10_ready_5 {X : pz_C} {rm : Room} {E : Option pz_V → pz_H → Prop} (hX : pz_X X cX10_ready 8 RX10) (hR : pz_Rt X cX10_ready 8 (some .long) rm E) : ∀ lv st g c s, (zo_ll 2 4 (zo_rl rm E)) 5 lv st g c s → pz_Z X 8 5 lv st g c s := (zs_lload hX dX10_ready_5 (zs_rl hR dX10_ready_7))
set_option maxRecDepth 20000 in
theorem bX10_ready_8 {X : pz_C} (hX : pz_X X cX10_ready 8 RX10) : ∀ lv st g c s, (zo_al 1 0 (zo_get 12 21 (zo_ic 2 (100) (zo_il 1 1 (zo_imul (zo_il 1 2 (zo_iadd (zo_lald (zo_lst 2 6 (zo_ll 2 6 (zo_lc 3 (9223372036854775807) (zo_lcmp (zo_if_ne 36 (pz_Z X 8)))))))))))))) 8 lv st g c s → pz_Z X 8 8 lv st g c s := (zs_aload_n hX dX10_ready_8 rfl (zs_get hX (C := RX10) (T := TX10) (N := 37) rfl in_X10 (by decide) mw_2f85e0df dX10_ready_9 (zs_bipush hX dX10_ready_12 (by decide) (zs_iload_n hX dX10_ready_14 rfl (zs_imul hX dX10_ready_15 (zs_iload_n hX dX10_ready_16 rfl (zs_iadd hX dX10_ready_17 (zs_lald hX dX10_ready_18 (zs_lstore hX dX10_ready_19 (by decide) (zs_lload hX dX10_ready_21 (zs_ldc2 hX dX10_ready_23 mw_19e5e0c8 (zs_lcmp hX dX10_ready_26 (zs_if_ne hX dX10_ready_27 (by decide) (fun _ _ _ _ _ _ h => h))))))))))))))
set_option maxRecDepth 20000 in
theorem bX10_ready_30 {X : pz_C} (hX : pz_X X cX10_ready 8 RX10) : ∀ lv st g c s, (zo_lc 3 (9223372036854775807) (zo_goto 46 (pz_Z X 8))) 30 lv st g c s → pz_Z X 8 30 lv st g c s := (zs_ldc2 hX dX10_ready_30 mw_19e5e0c8 (zs_goto hX dX10_ready_33 (by decide) (fun _ _ _ _ _ _ h => h)))
set_option maxRecDepth 20000 in
theorem bX10_ready_36 {X : pz_C} (hX : pz_X X cX10_ready 8 RX10) : ∀ lv st g c s, (zo_ll 2 6 (zo_al 1 0 (zo_get 12 20 (zo_il 1 2 (zo_iald (zo_i2l (zo_ladd (pz_Z X 8)))))))) 36 lv st g c s → pz_Z X 8 36 lv st g c s := (zs_lload hX dX10_ready_36 (zs_aload_n hX dX10_ready_38 rfl (zs_get hX (C := RX10) (T := TX10) (N := 37) rfl in_X10 (by decide) mw_1b6f5ecd dX10_ready_39 (zs_iload_n hX dX10_ready_42 rfl (zs_iald hX dX10_ready_43 (zs_i2l hX dX10_ready_44 (zs_ladd hX dX10_ready_45 (fun _ _ _ _ _ h => h))))))))
set_option maxRecDepth 20000 in
theorem bX10_ready_46 {X : pz_C} {rm : Room} {E : Option pz_V → pz_H → Prop} (hX : pz_X X cX10_ready 8 RX10) (hR : pz_Rt X cX10_ready 8 (some .long) rm E) : ∀ lv st g c s, (zo_rl rm E) 46 lv st g c s → pz_Z X 8 46 lv st g c s := (zs_rl hR dX10_ready_46)
def rm_X10_isLeg : Room := { frames := 0, cells := 0, slots := 0, locals := 0 }
abbrev gt_X10_isLeg : Type := (Nat × Nat) × mo_T
def pr_X10_isLeg : gt_X10_isLeg → List pz_V → pz_H → Prop := fun ((i, j), (mo, M, I, Ai, Aj)) av g => av = [.inr (.inr (some mo)), .inl (nI i), .inl (nI j)] ∧ i < 12 ∧ j < 12 ∧ moS g mo M I Ai Aj
def po_X10_isLeg : gt_X10_isLeg → List pz_V → pz_H → Option pz_V → pz_H → Prop := fun ((i, j), (_, _, _, _, Aj)) _ g v g' => g' = g ∧ v = some (.inl (b01 (decide (Aj 30 i ≤ Aj 29 j))))
theorem ct_X10_isLeg {G : pz_Gx} (hOk : pz_OK G) (gh : gt_X10_isLeg) : pz_M G yX10_isLeg cX10_isLeg 3 (some .boolean) rm_X10_isLeg (pr_X10_isLeg gh) (po_X10_isLeg gh) := by
  obtain ⟨⟨i, j⟩, mo, M, I, Ai, Aj⟩ := gh
  refine pz_ofZ (by decide) hOk.1 (Or.inr (Or.inr (Or.inl rfl))) ?_ ?_
  · rintro av g ⟨rfl, -⟩
    exact Nat.le_of_ble_eq_true rfl
  · rintro X hX hGX hrm - av g ⟨rfl, hi, hj, h1, hai, hz, haj⟩ hR
    have h29 : g (M 29) = some ([101, 29], ar_j 12 (Aj 29)) := haj 29 (by decide)
    have h30 : g (M 30) = some ([101, 30], ar_j 12 (Aj 30)) := haj 30 (by decide)
    refine bX10_isLeg_0 hX _ _ _ _ _ ⟨_, _, _, h1, rfl, _, _, _, h29, ni_in hj (by omega), _, _, _, h1, rfl, _, _, _, h30, ni_in hi (by omega), ?_⟩
    rw [ni_cl (j := j) (by omega), ni_cl (j := i) (by omega)]
    refine ⟨fun q => ?_, fun q => ?_⟩
    · refine bX10_isLeg_20 hX _ _ _ _ _ ?_
      exact bX10_isLeg_21 hX hR _ _ _ _ _ ⟨Or.inl rfl, Nat.le_refl _, Nat.le_refl _, rfl, by rw [decide_eq_false (Int64.not_le.mpr ((lc_lt _ _).mp q))]; rfl⟩
    · refine bX10_isLeg_16 hX _ _ _ _ _ ?_
      exact bX10_isLeg_21 hX hR _ _ _ _ _ ⟨Or.inr rfl, Nat.le_refl _, Nat.le_refl _, rfl, by rw [decide_eq_true (Int64.not_lt.mp (fun z => q ((lc_lt _ _).mpr z)))]; rfl⟩
/-- from when on a run may be entered at a place with lb legs behind -/
def mq_r (Ai : Nat → Nat → Int32) (Aj : Nat → Nat → Int64) (lb p from' : Nat) (t : Int64) : Int64 := if p = from' then t else if Aj 21 (100 * lb + p) = 9223372036854775807 then 9223372036854775807 else Aj 21 (100 * lb + p) + (Ai 20 p).toInt64
def rm_X10_ready : Room := { frames := 0, cells := 0, slots := 0, locals := 0 }
abbrev gt_X10_ready : Type := (Nat × Nat × Nat × Int64) × mo_T
def pr_X10_ready : gt_X10_ready → List pz_V → pz_H → Prop := fun ((lb, p, from', t), (mo, M, I, Ai, Aj)) av g => av = [.inr (.inr (some mo)), .inl (nI lb), .inl (nI p), .inl (nI from'), .inr (.inl t)] ∧ lb < 7 ∧ p < 100 ∧ from' < 100 ∧ moS g mo M I Ai Aj
def po_X10_ready : gt_X10_ready → List pz_V → pz_H → Option pz_V → pz_H → Prop := fun ((lb, p, from', t), (_, _, _, Ai, Aj)) _ g v g' => g' = g ∧ v = some (.inr (.inl (mq_r Ai Aj lb p from' t)))
set_option maxRecDepth 20000 in
theorem ct_X10_ready {G : pz_Gx} (hOk : pz_OK G) (gh : gt_X10_ready) : pz_M G yX10_ready cX10_ready 8 (some .long) rm_X10_ready (pr_X10_ready gh) (po_X10_ready gh) := by
  obtain ⟨⟨lb, p, from', t⟩, mo, M, I, Ai, Aj⟩ := gh
  refine pz_ofZ (by decide) hOk.1 (Or.inr (Or.inr (Or.inr (Or.inl rfl)))) ?_ ?_
  · rintro av g ⟨rfl, -⟩
    exact Nat.le_of_ble_eq_true rfl
  · rintro X hX hGX hrm - av g ⟨rfl, hlb, hp, hf, h1, hai, hz, haj⟩ hR
    have h20 : g (M 20) = some ([101, 20], ar_i 100 (Ai 20)) := hai 20 (by decide)
    have h21 : g (M 21) = some ([101, 21], ar_j 700 (Aj 21)) := haj 21 (by decide)
    refine bX10_ready_0 hX _ _ _ _ _ ⟨fun q => ?_, fun q => ?_⟩
    · have hpf : p ≠ from' := fun e => q (by rw [e])
      refine bX10_ready_8 hX _ _ _ _ _ ⟨_, _, _, h1, rfl, _, _, _, h21, by rw [ix_100]; exact ni_in (by omega) (by omega), ?_⟩
      rw [ix_100, ni_cl (j := 100 * lb + p) (by omega)]
      refine ⟨fun q2 => ?_, fun q2 => ?_⟩
      · have hne : ¬ Aj 21 (100 * lb + p) = 9223372036854775807 := fun z => q2 ((lc_eq _ _).mpr z)
        refine bX10_ready_36 hX _ _ _ _ _ ⟨_, _, _, h1, rfl, _, _, _, h20, ni_in hp (by omega), ?_⟩
        rw [ni_cl (j := p) (by omega)]
        refine bX10_ready_46 hX hR _ _ _ _ _ ⟨Nat.le_refl _, Nat.le_refl _, rfl, ?_⟩
        unfold mq_r
        rw [if_neg hpf, if_neg hne]
      · have he : Aj 21 (100 * lb + p) = 9223372036854775807 := (lc_eq _ _).mp q2
        refine bX10_ready_30 hX _ _ _ _ _ ?_
        refine bX10_ready_46 hX hR _ _ _ _ _ ⟨Nat.le_refl _, Nat.le_refl _, rfl, ?_⟩
        unfold mq_r
        rw [if_neg hpf, if_pos he]
    · have hpf : p = from' := ni_inj (by omega) (by omega) q
      refine bX10_ready_5 hX hR _ _ _ _ _ ⟨Nat.le_refl _, Nat.le_refl _, rfl, ?_⟩
      unfold mq_r
      rw [if_pos hpf]
