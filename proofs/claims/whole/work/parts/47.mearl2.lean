/-! the reference: earliest -/
section EE
variable (Ai : Nat → Nat → Int32) (Aj : Nat → Nat → Int64) (ne nz nw : Nat) (cn : Nat → Nat) (from' T nl : Nat)
def ee_0 (p : Nat) (E : Nat → Int64) : Nat → Int64 := fun k => if k < p then (if k = from' then lN T else 9223372036854775807) else E k
def ee : Nat → Nat → Int64
  | 0 => ee_0 from' T 100 (Aj 21)
  | n + 1 => me_l Ai Aj ne nz nw cn n from' T nl (me_c n 100 (ee n))
end EE
theorem ee_0s {from' T p : Nat} {E : Nat → Int64} {x : Int64} (hx : x = if p = from' then lN T else 9223372036854775807) : vp_updL (ee_0 from' T p E) p x = ee_0 from' T (p + 1) E := by
  funext k
  by_cases h : k = p
  · subst h
    rw [pk_uLs, hx]
    unfold ee_0
    rw [if_pos (Nat.lt_succ_self _)]
  · rw [pk_uLn h]
    unfold ee_0
    by_cases h2 : k < p
    · rw [if_pos h2, if_pos (show k < p + 1 by omega)]
    · rw [if_neg h2, if_neg (show ¬ k < p + 1 by omega)]
theorem me_d_ag {Ai : Nat → Nat → Int32} {A B : Nat → Nat → Int64} {ne nz nw : Nat} {cn : Nat → Nat} {lb from' T l : Nat} (h : agJ [21, 29, 30] A B) : ∀ (r : Nat) (E : Nat → Int64), me_d Ai B ne nz nw cn lb from' T l r E = me_d Ai A ne nz nw cn lb from' T l r E
  | 0, _ => rfl
  | r + 1, E => by
    unfold me_d
    rw [me_d_ag h r E, mr_ag h (by decide)]
    have e : ∀ b, (fun k => mt_t Ai B nz nw l (dy T r) k b) = fun k => mt_t Ai A nz nw l (dy T r) k b := fun b => funext fun k => mt_ag h (by decide)
    rw [e, e]
theorem me_l_ag {Ai : Nat → Nat → Int32} {A B : Nat → Nat → Int64} {ne nz nw : Nat} {cn : Nat → Nat} {lb from' T : Nat} (h : agJ [21, 29, 30] A B) : ∀ (l : Nat) (E : Nat → Int64), me_l Ai B ne nz nw cn lb from' T l E = me_l Ai A ne nz nw cn lb from' T l E
  | 0, _ => rfl
  | l + 1, E => by
    unfold me_l
    rw [me_l_ag h l E, me_d_ag h]
section MCAG
variable {Ai Ai' : Nat → Nat → Int32} {Aj Aj' : Nat → Nat → Int64} {ne nz nw : Nat} {cn : Nat → Nat} {lb from' T to : Nat}
theorem mc_p_ag (hi : agI [23, 25, 26] Ai Ai') (hj : agJ [24, 29, 30] Aj Aj') : mc_p Ai' Aj' = mc_p Ai Aj := by
  unfold mc_p
  rw [hi 20 (by decide), hi 4 (by decide), hj 21 (by decide)]
theorem mc_q_ag (hi : agI [23, 25, 26] Ai Ai') (hj : agJ [24, 29, 30] Aj Aj') : mc_q Ai' Aj' = mc_q Ai Aj := by
  unfold mc_q
  rw [hi 4 (by decide), hj 21 (by decide), mc_p_ag hi hj]
theorem mc_d_ag (hi : agI [23, 25, 26] Ai Ai') (hj : agJ [24, 29, 30] Aj Aj') (l r : Nat) : mc_d Ai' Aj' ne nz nw cn lb from' T to l r = mc_d Ai Aj ne nz nw cn lb from' T to l r := by
  unfold mc_d
  have e : ∀ b, (fun k => mt_t Ai' Aj' nz nw l (dy T r) k b) = fun k => mt_t Ai Aj nz nw l (dy T r) k b := fun b => funext fun k => (mt_agI hi (by decide)).trans (mt_ag hj (by decide))
  rw [mc_q_ag hi hj, mc_p_ag hi hj, e, e, mr_agI hi (by decide), mr_ag hj (by decide)]
theorem mc_r_ag (hi : agI [23, 25, 26] Ai Ai') (hj : agJ [24, 29, 30] Aj Aj') (l : Nat) : ∀ m r, mc_r Ai' Aj' ne nz nw cn lb from' T to l r m = mc_r Ai Aj ne nz nw cn lb from' T to l r m
  | 0, _ => rfl
  | m + 1, r => by
    unfold mc_r
    rw [mc_r_ag hi hj l m (r + 1), mc_d_ag hi hj]
theorem mc_n_ag (hi : agI [23, 25, 26] Ai Ai') (hj : agJ [24, 29, 30] Aj Aj') : ∀ m l, mc_n Ai' Aj' ne nz nw cn lb from' T to l m = mc_n Ai Aj ne nz nw cn lb from' T to l m
  | 0, _ => rfl
  | m + 1, l => by
    unfold mc_n
    rw [mc_n_ag hi hj m (l + 1), mc_r_ag hi hj]
theorem mc_d_bd {l r j i : Nat} (h : mc_d Ai Aj ne nz nw cn lb from' T to l r = some (j, i)) : j < cn l ∧ i < j := by
  unfold mc_d at h
  split at h
  · split at h
    · cases h
    · rename_i j' hj'
      split at h
      · cases h
      · rename_i i' hi'
        cases h
        have h1 := fs_lt hj'
        have h2 := fs_lt hi'
        omega
  · cases h
theorem mc_r_bd {l : Nat} : ∀ {m r r' j i : Nat}, mc_r Ai Aj ne nz nw cn lb from' T to l r m = some (r', j, i) → r ≤ r' ∧ r' < r + m ∧ j < cn l ∧ i < j
  | 0, _, _, _, _, h => by cases h
  | m + 1, r, r', j, i, h => by
    unfold mc_r at h
    split at h
    · rename_i q hq
      cases h
      have := mc_d_bd hq
      omega
    · have := mc_r_bd h
      omega
theorem mc_n_bd : ∀ {m l l' r j i : Nat}, mc_n Ai Aj ne nz nw cn lb from' T to l m = some (l', r, j, i) → l ≤ l' ∧ l' < l + m ∧ r < 13 ∧ j < cn l' ∧ i < j
  | 0, _, _, _, _, _, h => by cases h
  | m + 1, l, l', r, j, i, h => by
    unfold mc_n at h
    split at h
    · rename_i q hq
      cases h
      have := mc_r_bd hq
      omega
    · have := mc_n_bd h
      omega
end MCAG
/-- the way that choose tells: the places w and the legs q, K legs to w K -/
def mw_R (Ai : Nat → Nat → Int32) (Aj : Nat → Nat → Int64) (ne nz nw : Nat) (cn : Nat → Nat) (from' T nl : Nat) (E : Nat → Int64) (K to : Nat) (w : Nat → Nat) (q : Nat → Nat × Nat × Nat × Nat) : Prop := w K = to ∧ ∀ n, n < K → mc_n Ai (seqJ Aj 21 E) ne nz nw cn n from' T (w (n + 1)) 0 nl = some (q n) ∧ Ai 4 (12 * (q n).1 + (q n).2.2.2) = nI (w n) ∧ w n < 100
set_option maxRecDepth 20000 in
theorem bX10_earliest_0 {X : pz_C} (hX : pz_X X cX10_earliest 9 RX10) : ∀ lv st g c s, (zo_al 1 0 (zo_il 1 1 (pz_Z X 9))) 0 lv st g c s → pz_Z X 9 0 lv st g c s := (zs_aload_n hX dX10_earliest_0 rfl (zs_iload_n hX dX10_earliest_1 rfl (fun _ _ _ _ _ h => h)))
set_option maxRecDepth 20000 in
theorem bX10_earliest_2 {X : pz_C} {G : pz_Gx} {rm : Room} (hX : pz_X X cX10_earliest 9 RX10) (hrm : pz_rm X = rm) (hGX : pz_GX X G) (hOk : pz_OK G) (gh : gt_X10_isPlace) (hr_X10_isPlace : rm_X10_isPlace.frames + 1 ≤ rm.frames ∧ 8 + (1 + 11) + rm_X10_isPlace.locals ≤ rm.locals) : ∀ lv st g c s, (zo_cs rm 1 3 rm_X10_isPlace.cells rm_X10_isPlace.slots (pr_X10_isPlace gh) (po_X10_isPlace gh) (zo_kz (zo_if_eq 15 (pz_Z X 9)))) 2 lv st g c s → pz_Z X 9 2 lv st g c s := by
  subst hrm
  exact (zs_csS hX hGX (ct_X10_isPlace hOk gh) mw_57aced96 mw_2d6024eb mw_33939a39 mw_b2184c85 (by decide +kernel) hr_X10_isPlace dX10_earliest_2 (zs_kz (zs_if_eq hX dX10_earliest_5 (by decide) (fun _ _ _ _ _ _ h => h))))
set_option maxRecDepth 20000 in
theorem bX10_earliest_8 {X : pz_C} (hX : pz_X X cX10_earliest 9 RX10) : ∀ lv st g c s, (zo_il 1 2 (pz_Z X 9)) 8 lv st g c s → pz_Z X 9 8 lv st g c s := (zs_iload_n hX dX10_earliest_8 rfl (fun _ _ _ _ _ h => h))
set_option maxRecDepth 20000 in
theorem bX10_earliest_9 {X : pz_C} {G : pz_Gx} {rm : Room} (hX : pz_X X cX10_earliest 9 RX10) (hrm : pz_rm X = rm) (hGX : pz_GX X G) (hOk : pz_OK G) (gh : gt_X10_isPlace) (hr_X10_isPlace : rm_X10_isPlace.frames + 1 ≤ rm.frames ∧ 8 + (1 + 11) + rm_X10_isPlace.locals ≤ rm.locals) : ∀ lv st g c s, (zo_cs rm 1 3 rm_X10_isPlace.cells rm_X10_isPlace.slots (pr_X10_isPlace gh) (po_X10_isPlace gh) (zo_kz (zo_if_ne 19 (pz_Z X 9)))) 9 lv st g c s → pz_Z X 9 9 lv st g c s := by
  subst hrm
  exact (zs_csS hX hGX (ct_X10_isPlace hOk gh) mw_57aced96 mw_2d6024eb mw_33939a39 mw_b2184c85 (by decide +kernel) hr_X10_isPlace dX10_earliest_9 (zs_kz (zs_if_ne hX dX10_earliest_12 (by decide) (fun _ _ _ _ _ _ h => h))))
set_option maxRecDepth 20000 in
theorem bX10_earliest_15 {X : pz_C} (hX : pz_X X cX10_earliest 9 RX10) : ∀ lv st g c s, (zo_ic 1 (1) (zo_goto 20 (pz_Z X 9))) 15 lv st g c s → pz_Z X 9 15 lv st g c s := (zs_iconst hX dX10_earliest_15 (by decide) (zs_goto hX dX10_earliest_16 (by decide) (fun _ _ _ _ _ _ h => h)))
set_option maxRecDepth 20000 in
theorem bX10_earliest_19 {X : pz_C} (hX : pz_X X cX10_earliest 9 RX10) : ∀ lv st g c s, (zo_ic 1 (0) (pz_Z X 9)) 19 lv st g c s → pz_Z X 9 19 lv st g c s := (zs_iconst hX dX10_earliest_19 (by decide) (fun _ _ _ _ _ h => h))
set_option maxRecDepth 20000 in
theorem bX10_earliest_20 {X : pz_C} (hX : pz_X X cX10_earliest 9 RX10) : ∀ lv st g c s, (zo_ll 1 3 (zo_lc 1 (0) (zo_lc 3 (1700000000) (pz_Z X 9)))) 20 lv st g c s → pz_Z X 9 20 lv st g c s := (zs_lload_n hX dX10_earliest_20 rfl (zs_lconst hX dX10_earliest_21 (by decide) (zs_ldc2 hX dX10_earliest_22 mw_3b033ce7 (fun _ _ _ _ _ h => h))))
set_option maxRecDepth 20000 in
theorem bX10_earliest_25 {X : pz_C} {G : pz_Gx} {rm : Room} (hX : pz_X X cX10_earliest 9 RX10) (hrm : pz_rm X = rm) (hGX : pz_GX X G) (hOk : pz_OK G) (gh : gt_X10_within) (hr_X10_within : rm_X10_within.frames + 1 ≤ rm.frames ∧ 8 + (6 + 11) + rm_X10_within.locals ≤ rm.locals) : ∀ lv st g c s, (zo_cs rm 3 3 rm_X10_within.cells rm_X10_within.slots (pr_X10_within gh) (po_X10_within gh) (zo_kz (zo_if_ne 35 (pz_Z X 9)))) 25 lv st g c s → pz_Z X 9 25 lv st g c s := by
  subst hrm
  exact (zs_csS hX hGX (ct_X10_within hOk gh) mw_b2fd6b25 mw_bf52c9cc mw_33939a39 mw_fee1cb2c (by decide +kernel) hr_X10_within dX10_earliest_25 (zs_kz (zs_if_ne hX dX10_earliest_28 (by decide) (fun _ _ _ _ _ _ h => h))))
set_option maxRecDepth 20000 in
theorem bX10_earliest_31 {X : pz_C} (hX : pz_X X cX10_earliest 9 RX10) : ∀ lv st g c s, (zo_ic 1 (1) (zo_goto 36 (pz_Z X 9))) 31 lv st g c s → pz_Z X 9 31 lv st g c s := (zs_iconst hX dX10_earliest_31 (by decide) (zs_goto hX dX10_earliest_32 (by decide) (fun _ _ _ _ _ _ h => h)))
set_option maxRecDepth 20000 in
theorem bX10_earliest_35 {X : pz_C} (hX : pz_X X cX10_earliest 9 RX10) : ∀ lv st g c s, (zo_ic 1 (0) (pz_Z X 9)) 35 lv st g c s → pz_Z X 9 35 lv st g c s := (zs_iconst hX dX10_earliest_35 (by decide) (fun _ _ _ _ _ h => h))
set_option maxRecDepth 20000 in
theorem bX10_earliest_36 {X : pz_C} (hX : pz_X X cX10_earliest 9 RX10) : ∀ lv st g c s, (zo_ic 1 (0) (pz_Z X 9)) 36 lv st g c s → pz_Z X 9 36 lv st g c s := (zs_iconst hX dX10_earliest_36 (by decide) (fun _ _ _ _ _ h => h))
set_option maxRecDepth 20000 in
theorem bX10_earliest_37 {X : pz_C} {G : pz_Gx} {rm : Room} (hX : pz_X X cX10_earliest 9 RX10) (hrm : pz_rm X = rm) (hGX : pz_GX X G) (hOk : pz_OK G) (gh : gt_X10_refused) (hr_X10_refused : rm_X10_refused.frames + 1 ≤ rm.frames ∧ 8 + (4 + 11) + rm_X10_refused.locals ≤ rm.locals) : ∀ lv st g c s, (zo_cV rm 12 3 3 rm_X10_refused.cells rm_X10_refused.slots (pr_X10_refused gh) (po_X10_refused gh) (zo_kz (zo_if_eq 45 (pz_Z X 9)))) 37 lv st g c s → pz_Z X 9 37 lv st g c s := by
  subst hrm
  exact (zs_csV hX hGX (C := RX10) (T := TX10) (N := 37) rfl (ct_X10_refused hOk gh) mw_53c1f8a2 mw_ba17b74c mw_7c91c019 mw_33939a39 mw_471b458e (by decide +kernel) hr_X10_refused dX10_earliest_37 (zs_kz (zs_if_eq hX dX10_earliest_40 (by decide) (fun _ _ _ _ _ _ h => h))))
set_option maxRecDepth 20000 in
theorem bX10_earliest_43 {X : pz_C} {rm : Room} {E : Option pz_V → pz_H → Prop} (hX : pz_X X cX10_earliest 9 RX10) (hR : pz_Rt X cX10_earliest 9 (some .long) rm E) : ∀ lv st g c s, (zo_lc 1 (0) (zo_rl rm E)) 43 lv st g c s → pz_Z X 9 43 lv st g c s := (zs_lconst hX dX10_earliest_43 (by decide) (zs_rl hR dX10_earliest_44))
set_option maxRecDepth 20000 in
theorem bX10_earliest_45 {X : pz_C} (hX : pz_X X cX10_earliest 9 RX10) : ∀ lv st g c s, (zo_ic 1 (0) (zo_is 2 5 (pz_Z X 9))) 45 lv st g c s → pz_Z X 9 45 lv st g c s := (zs_iconst hX dX10_earliest_45 (by decide) (zs_istore hX dX10_earliest_46 (by decide) (fun _ _ _ _ _ h => h)))
set_option maxRecDepth 20000 in
theorem bX10_earliest_48 {X : pz_C} (hX : pz_X X cX10_earliest 9 RX10) : ∀ lv st g c s, (zo_il 2 5 (zo_ic 2 (100) (zo_ic_ge 81 (pz_Z X 9)))) 48 lv st g c s → pz_Z X 9 48 lv st g c s := (zs_iload hX dX10_earliest_48 (zs_bipush hX dX10_earliest_50 (by decide) (zs_ic_ge hX dX10_earliest_52 (by decide) (fun _ _ _ _ _ _ h => h))))
set_option maxRecDepth 20000 in
theorem bX10_earliest_55 {X : pz_C} (hX : pz_X X cX10_earliest 9 RX10) : ∀ lv st g c s, (zo_al 1 0 (zo_get 12 21 (zo_il 2 5 (zo_il 2 5 (zo_il 1 1 (zo_ic_ne 71 (pz_Z X 9))))))) 55 lv st g c s → pz_Z X 9 55 lv st g c s := (zs_aload_n hX dX10_earliest_55 rfl (zs_get hX (C := RX10) (T := TX10) (N := 37) rfl in_X10 (by decide) mw_2f85e0df dX10_earliest_56 (zs_iload hX dX10_earliest_59 (zs_iload hX dX10_earliest_61 (zs_iload_n hX dX10_earliest_63 rfl (zs_ic_ne hX dX10_earliest_64 (by decide) (fun _ _ _ _ _ _ h => h)))))))
set_option maxRecDepth 20000 in
theorem bX10_earliest_67 {X : pz_C} (hX : pz_X X cX10_earliest 9 RX10) : ∀ lv st g c s, (zo_ll 1 3 (zo_goto 74 (pz_Z X 9))) 67 lv st g c s → pz_Z X 9 67 lv st g c s := (zs_lload_n hX dX10_earliest_67 rfl (zs_goto hX dX10_earliest_68 (by decide) (fun _ _ _ _ _ _ h => h)))
set_option maxRecDepth 20000 in
theorem bX10_earliest_71 {X : pz_C} (hX : pz_X X cX10_earliest 9 RX10) : ∀ lv st g c s, (zo_lc 3 (9223372036854775807) (pz_Z X 9)) 71 lv st g c s → pz_Z X 9 71 lv st g c s := (zs_ldc2 hX dX10_earliest_71 mw_19e5e0c8 (fun _ _ _ _ _ h => h))
set_option maxRecDepth 20000 in
theorem bX10_earliest_74 {X : pz_C} (hX : pz_X X cX10_earliest 9 RX10) : ∀ lv st g c s, (zo_last (zo_inc 5 (1) (zo_goto 48 (pz_Z X 9)))) 74 lv st g c s → pz_Z X 9 74 lv st g c s := (zs_last hX dX10_earliest_74 (zs_iinc hX dX10_earliest_75 (by decide) (by decide) (zs_goto hX dX10_earliest_78 (by decide) (fun _ _ _ _ _ _ h => h))))
set_option maxRecDepth 20000 in
theorem bX10_earliest_81 {X : pz_C} (hX : pz_X X cX10_earliest 9 RX10) : ∀ lv st g c s, (zo_ic 1 (1) (zo_is 2 5 (pz_Z X 9))) 81 lv st g c s → pz_Z X 9 81 lv st g c s := (zs_iconst hX dX10_earliest_81 (by decide) (zs_istore hX dX10_earliest_82 (by decide) (fun _ _ _ _ _ h => h)))
set_option maxRecDepth 20000 in
theorem bX10_earliest_84 {X : pz_C} (hX : pz_X X cX10_earliest 9 RX10) : ∀ lv st g c s, (zo_il 2 5 (zo_ic 2 (6) (zo_ic_gt 105 (pz_Z X 9)))) 84 lv st g c s → pz_Z X 9 84 lv st g c s := (zs_iload hX dX10_earliest_84 (zs_bipush hX dX10_earliest_86 (by decide) (zs_ic_gt hX dX10_earliest_88 (by decide) (fun _ _ _ _ _ _ h => h))))
set_option maxRecDepth 20000 in
theorem bX10_earliest_91 {X : pz_C} (hX : pz_X X cX10_earliest 9 RX10) : ∀ lv st g c s, (zo_al 1 0 (zo_il 2 5 (zo_il 1 1 (zo_ll 1 3 (pz_Z X 9))))) 91 lv st g c s → pz_Z X 9 91 lv st g c s := (zs_aload_n hX dX10_earliest_91 rfl (zs_iload hX dX10_earliest_92 (zs_iload_n hX dX10_earliest_94 rfl (zs_lload_n hX dX10_earliest_95 rfl (fun _ _ _ _ _ h => h)))))
set_option maxRecDepth 20000 in
theorem bX10_earliest_96 {X : pz_C} {G : pz_Gx} {rm : Room} (hX : pz_X X cX10_earliest 9 RX10) (hrm : pz_rm X = rm) (hGX : pz_GX X G) (hOk : pz_OK G) (gh : gt_X10_round) (hr_X10_round : rm_X10_round.frames + 1 ≤ rm.frames ∧ 8 + (13 + 11) + rm_X10_round.locals ≤ rm.locals) : ∀ lv st g c s, (zo_cV rm 12 3 3 rm_X10_round.cells rm_X10_round.slots (pr_X10_round gh) (po_X10_round gh) (zo_kv (zo_inc 5 (1) (zo_goto 84 (pz_Z X 9))))) 96 lv st g c s → pz_Z X 9 96 lv st g c s := by
  subst hrm
  exact (zs_csV hX hGX (C := RX10) (T := TX10) (N := 37) rfl (ct_X10_round hOk gh) mw_cab40f94 mw_2aebd775 mw_68fd3f6b mw_33939a39 mw_53edc1b9 (by decide +kernel) hr_X10_round dX10_earliest_96 (zs_kv (zs_iinc hX dX10_earliest_99 (by decide) (by decide) (zs_goto hX dX10_earliest_102 (by decide) (fun _ _ _ _ _ _ h => h)))))
set_option maxRecDepth 20000 in
theorem bX10_earliest_105 {X : pz_C} (hX : pz_X X cX10_earliest 9 RX10) : ∀ lv st g c s, (zo_al 1 0 (zo_get 12 21 (zo_ic 3 (600) (zo_il 1 2 (zo_iadd (zo_lald (zo_lst 2 5 (zo_al 1 0 (zo_ic 1 (0) (zo_puti 12 22 (zo_ll 2 5 (zo_lc 3 (9223372036854775807) (zo_lcmp (zo_if_ne 135 (pz_Z X 9))))))))))))))) 105 lv st g c s → pz_Z X 9 105 lv st g c s := (zs_aload_n hX dX10_earliest_105 rfl (zs_get hX (C := RX10) (T := TX10) (N := 37) rfl in_X10 (by decide) mw_2f85e0df dX10_earliest_106 (zs_sipush hX dX10_earliest_109 (by decide) (zs_iload_n hX dX10_earliest_112 rfl (zs_iadd hX dX10_earliest_113 (zs_lald hX dX10_earliest_114 (zs_lstore hX dX10_earliest_115 (by decide) (zs_aload_n hX dX10_earliest_117 rfl (zs_iconst hX dX10_earliest_118 (by decide) (zs_puti hX (C := RX10) (T := TX10) (N := 37) rfl in_X10 (by decide) mw_2c09b292 tyX10 tyX10_ok nmX10 (by decide +kernel) rfl dX10_earliest_119 (zs_lload hX dX10_earliest_122 (zs_ldc2 hX dX10_earliest_124 mw_19e5e0c8 (zs_lcmp hX dX10_earliest_127 (zs_if_ne hX dX10_earliest_128 (by decide) (fun _ _ _ _ _ _ h => h)))))))))))))))
set_option maxRecDepth 20000 in
theorem bX10_earliest_131 {X : pz_C} {rm : Room} {E : Option pz_V → pz_H → Prop} (hX : pz_X X cX10_earliest 9 RX10) (hR : pz_Rt X cX10_earliest 9 (some .long) rm E) : ∀ lv st g c s, (zo_lc 3 (-1) (zo_rl rm E)) 131 lv st g c s → pz_Z X 9 131 lv st g c s := (zs_ldc2 hX dX10_earliest_131 mw_38b1cbde (zs_rl hR dX10_earliest_134))
set_option maxRecDepth 20000 in
theorem bX10_earliest_135 {X : pz_C} (hX : pz_X X cX10_earliest 9 RX10) : ∀ lv st g c s, (zo_al 1 0 (zo_get 12 21 (zo_ic 2 (100) (zo_al 1 0 (zo_get 12 22 (zo_imul (zo_il 1 2 (zo_iadd (zo_lald (zo_ll 2 5 (zo_lcmp (zo_if_eq 168 (pz_Z X 9))))))))))))) 135 lv st g c s → pz_Z X 9 135 lv st g c s := (zs_aload_n hX dX10_earliest_135 rfl (zs_get hX (C := RX10) (T := TX10) (N := 37) rfl in_X10 (by decide) mw_2f85e0df dX10_earliest_136 (zs_bipush hX dX10_earliest_139 (by decide) (zs_aload_n hX dX10_earliest_141 rfl (zs_get hX (C := RX10) (T := TX10) (N := 37) rfl in_X10 (by decide) mw_2c09b292 dX10_earliest_142 (zs_imul hX dX10_earliest_145 (zs_iload_n hX dX10_earliest_146 rfl (zs_iadd hX dX10_earliest_147 (zs_lald hX dX10_earliest_148 (zs_lload hX dX10_earliest_149 (zs_lcmp hX dX10_earliest_151 (zs_if_eq hX dX10_earliest_152 (by decide) (fun _ _ _ _ _ _ h => h)))))))))))))
set_option maxRecDepth 20000 in
theorem bX10_earliest_155 {X : pz_C} (hX : pz_X X cX10_earliest 9 RX10) : ∀ lv st g c s, (zo_al 1 0 (zo_dup (zo_get 12 22 (zo_ic 1 (1) (zo_iadd (zo_puti 12 22 (zo_goto 135 (pz_Z X 9)))))))) 155 lv st g c s → pz_Z X 9 155 lv st g c s := (zs_aload_n hX dX10_earliest_155 rfl (zs_dup hX dX10_earliest_156 (zs_get hX (C := RX10) (T := TX10) (N := 37) rfl in_X10 (by decide) mw_2c09b292 dX10_earliest_157 (zs_iconst hX dX10_earliest_160 (by decide) (zs_iadd hX dX10_earliest_161 (zs_puti hX (C := RX10) (T := TX10) (N := 37) rfl in_X10 (by decide) mw_2c09b292 tyX10 tyX10_ok nmX10 (by decide +kernel) rfl dX10_earliest_162 (zs_goto hX dX10_earliest_165 (by decide) (fun _ _ _ _ _ _ h => h))))))))
set_option maxRecDepth 20000 in
theorem bX10_earliest_168 {X : pz_C} (hX : pz_X X cX10_earliest 9 RX10) : ∀ lv st g c s, (zo_il 1 2 (zo_is 2 7 (zo_al 1 0 (zo_get 12 22 (zo_is 2 8 (pz_Z X 9)))))) 168 lv st g c s → pz_Z X 9 168 lv st g c s := (zs_iload_n hX dX10_earliest_168 rfl (zs_istore hX dX10_earliest_169 (by decide) (zs_aload_n hX dX10_earliest_171 rfl (zs_get hX (C := RX10) (T := TX10) (N := 37) rfl in_X10 (by decide) mw_2c09b292 dX10_earliest_172 (zs_istore hX dX10_earliest_175 (by decide) (fun _ _ _ _ _ h => h))))))
set_option maxRecDepth 20000 in
theorem bX10_earliest_177 {X : pz_C} (hX : pz_X X cX10_earliest 9 RX10) : ∀ lv st g c s, (zo_il 2 8 (zo_if_le 227 (pz_Z X 9))) 177 lv st g c s → pz_Z X 9 177 lv st g c s := (zs_iload hX dX10_earliest_177 (zs_if_le hX dX10_earliest_179 (by decide) (fun _ _ _ _ _ _ h => h)))
set_option maxRecDepth 20000 in
theorem bX10_earliest_182 {X : pz_C} (hX : pz_X X cX10_earliest 9 RX10) : ∀ lv st g c s, (zo_al 1 0 (zo_il 2 8 (zo_il 2 7 (zo_il 1 1 (zo_ll 1 3 (pz_Z X 9)))))) 182 lv st g c s → pz_Z X 9 182 lv st g c s := (zs_aload_n hX dX10_earliest_182 rfl (zs_iload hX dX10_earliest_183 (zs_iload hX dX10_earliest_185 (zs_iload_n hX dX10_earliest_187 rfl (zs_lload_n hX dX10_earliest_188 rfl (fun _ _ _ _ _ h => h))))))
set_option maxRecDepth 20000 in
theorem bX10_earliest_189 {X : pz_C} {G : pz_Gx} {rm : Room} (hX : pz_X X cX10_earliest 9 RX10) (hrm : pz_rm X = rm) (hGX : pz_GX X G) (hOk : pz_OK G) (gh : gt_X10_choose) (hr_X10_choose : rm_X10_choose.frames + 1 ≤ rm.frames ∧ 8 + (13 + 11) + rm_X10_choose.locals ≤ rm.locals) : ∀ lv st g c s, (zo_cV rm 12 4 3 rm_X10_choose.cells rm_X10_choose.slots (pr_X10_choose gh) (po_X10_choose gh) (zo_kv (zo_al 1 0 (zo_get 12 4 (zo_ic 2 (12) (zo_al 1 0 (zo_get 12 23 (zo_il 2 8 (zo_ic 1 (1) (zo_isub (zo_iald (zo_imul (zo_al 1 0 (zo_get 12 25 (zo_il 2 8 (zo_ic 1 (1) (zo_isub (zo_iald (zo_iadd (zo_iald (zo_is 2 7 (zo_inc 8 (-1) (zo_goto 177 (pz_Z X 9)))))))))))))))))))))))) 189 lv st g c s → pz_Z X 9 189 lv st g c s := by
  subst hrm
  exact (zs_csV hX hGX (C := RX10) (T := TX10) (N := 37) rfl (ct_X10_choose hOk gh) mw_47a23af0 mw_32a36f05 mw_1aacad54 mw_33939a39 mw_76e22ade (by decide +kernel) hr_X10_choose dX10_earliest_189 (zs_kv (zs_aload_n hX dX10_earliest_192 rfl (zs_get hX (C := RX10) (T := TX10) (N := 37) rfl in_X10 (by decide) mw_d81b3427 dX10_earliest_193 (zs_bipush hX dX10_earliest_196 (by decide) (zs_aload_n hX dX10_earliest_198 rfl (zs_get hX (C := RX10) (T := TX10) (N := 37) rfl in_X10 (by decide) mw_6928b6ad dX10_earliest_199 (zs_iload hX dX10_earliest_202 (zs_iconst hX dX10_earliest_204 (by decide) (zs_isub hX dX10_earliest_205 (zs_iald hX dX10_earliest_206 (zs_imul hX dX10_earliest_207 (zs_aload_n hX dX10_earliest_208 rfl (zs_get hX (C := RX10) (T := TX10) (N := 37) rfl in_X10 (by decide) mw_6e65b301 dX10_earliest_209 (zs_iload hX dX10_earliest_212 (zs_iconst hX dX10_earliest_214 (by decide) (zs_isub hX dX10_earliest_215 (zs_iald hX dX10_earliest_216 (zs_iadd hX dX10_earliest_217 (zs_iald hX dX10_earliest_218 (zs_istore hX dX10_earliest_219 (by decide) (zs_iinc hX dX10_earliest_221 (by decide) (by decide) (zs_goto hX dX10_earliest_224 (by decide) (fun _ _ _ _ _ _ h => h))))))))))))))))))))))))
set_option maxRecDepth 20000 in
theorem bX10_earliest_227 {X : pz_C} (hX : pz_X X cX10_earliest 9 RX10) : ∀ lv st g c s, (zo_al 1 0 (pz_Z X 9)) 227 lv st g c s → pz_Z X 9 227 lv st g c s := (zs_aload_n hX dX10_earliest_227 rfl (fun _ _ _ _ _ h => h))
set_option maxRecDepth 20000 in
theorem bX10_earliest_228 {X : pz_C} {G : pz_Gx} {rm : Room} {E : Option pz_V → pz_H → Prop} (hX : pz_X X cX10_earliest 9 RX10) (hR : pz_Rt X cX10_earliest 9 (some .long) rm E) (hrm : pz_rm X = rm) (hGX : pz_GX X G) (hOk : pz_OK G) (gh : gt_X10_keepTimes) (hr_X10_keepTimes : rm_X10_keepTimes.frames + 1 ≤ rm.frames ∧ 8 + (2 + 11) + rm_X10_keepTimes.locals ≤ rm.locals) : ∀ lv st g c s, (zo_cV rm 12 0 3 rm_X10_keepTimes.cells rm_X10_keepTimes.slots (pr_X10_keepTimes gh) (po_X10_keepTimes gh) (zo_kv (zo_ll 2 5 (zo_rl rm E)))) 228 lv st g c s → pz_Z X 9 228 lv st g c s := by
  subst hrm
  exact (zs_csV hX hGX (C := RX10) (T := TX10) (N := 37) rfl (ct_X10_keepTimes hOk gh) mw_b164ee6b mw_e9a6f95e mw_a43e0317 mw_33939a39 mw_867174a1 (by decide +kernel) hr_X10_keepTimes dX10_earliest_228 (zs_kv (zs_lload hX dX10_earliest_231 (zs_rl hR dX10_earliest_233))))
def rm_X10_earliest : Room := { frames := 4, cells := 0, slots := 0, locals := 110 }
abbrev gt_X10_earliest : Type := (Int32 × Int32 × Int64) × (Nat × Nat × Nat × (Nat → Nat) × (Nat → Nat × Nat × Nat × Nat)) × (Nat × Nat × Nat × Nat × (Nat → Nat)) × mo_T
def me_bad (p0 p1 : Int32) : Bool := !wi p0.toInt64 0 99 || !wi p1.toInt64 0 99
def me_K (Ai : Nat → Nat → Int32) (Aj : Nat → Nat → Int64) (ne nz nw : Nat) (cn : Nat → Nat) (from' T nl to K : Nat) (w : Nat → Nat) (q : Nat → Nat × Nat × Nat × Nat) : Prop := K ≤ 6 ∧ ee Ai Aj ne nz nw cn from' T nl 6 (100 * K + to) = ee Ai Aj ne nz nw cn from' T nl 6 (600 + to) ∧ (∀ k, k < K → ee Ai Aj ne nz nw cn from' T nl 6 (100 * k + to) ≠ ee Ai Aj ne nz nw cn from' T nl 6 (600 + to)) ∧ mw_R Ai Aj ne nz nw cn from' T nl (ee Ai Aj ne nz nw cn from' T nl 6) K to w q
def pr_X10_earliest : gt_X10_earliest → List pz_V → pz_H → Prop := fun ((p0, p1, t), (from', to, K, w, q), (nl, ne, nz, nw, cn), (mo, M, I, Ai, Aj)) av g => av = [.inr (.inr (some mo)), .inl p0, .inl p1, .inr (.inl t)] ∧ moW I Ai nl ne nz nw cn ∧ (me_bad p0 p1 = false → wi t 0 1700000000 = true → p0 = nI from' ∧ from' < 100 ∧ p1 = nI to ∧ to < 100 ∧ ∃ T, T ≤ 1700000000 ∧ t = lN T ∧ (ee Ai Aj ne nz nw cn from' T nl 6 (600 + to) ≠ 9223372036854775807 → me_K Ai Aj ne nz nw cn from' T nl to K w q)) ∧ moS g mo M I Ai Aj
def po_X10_earliest : gt_X10_earliest → List pz_V → pz_H → Option pz_V → pz_H → Prop := fun ((p0, p1, t), (from', to, K, w, q), (nl, ne, nz, nw, cn), (mo, M, I, Ai, Aj)) _ g v g' => hg moL g g' ∧ (((me_bad p0 p1 || !wi t 0 1700000000) = true ∧ v = some (.inr (.inl 0)) ∧ moS g' mo M (upd I 0 (rf3 (me_bad p0 p1) (!wi t 0 1700000000) false)) Ai Aj) ∨ ((me_bad p0 p1 || !wi t 0 1700000000) = false ∧ ∃ T, T ≤ 1700000000 ∧ t = lN T ∧ ((ee Ai Aj ne nz nw cn from' T nl 6 (600 + to) = 9223372036854775807 ∧ v = some (.inr (.inl (-1))) ∧ ∃ Aj', moS g' mo M (upd (upd I 0 0) 22 0) Ai Aj' ∧ agJ [21, 24, 29, 30] Aj Aj') ∨ (ee Ai Aj ne nz nw cn from' T nl 6 (600 + to) ≠ 9223372036854775807 ∧ v = some (.inr (.inl (ee Ai Aj ne nz nw cn from' T nl 6 (600 + to)))) ∧ ∃ Ai' Aj', moS g' mo M (upd (upd I 0 0) 22 (nI K)) Ai' Aj' ∧ agI [23, 25, 26, 31] Ai Ai' ∧ agJ [21, 24, 29, 30] Aj Aj' ∧ ∀ n, n < K → Ai' 23 n = nI (q n).1 ∧ Aj' 24 n = dy T (q n).2.1 ∧ Ai' 25 n = nI (q n).2.2.2 ∧ Ai' 26 n = nI (q n).2.2.1 ∧ Ai' 31 (2 * n) = (mt_t Ai Aj nz nw (q n).1 (dy T (q n).2.1) (q n).2.2.2 true).toInt32 ∧ Ai' 31 (2 * n + 1) = (mt_t Ai Aj nz nw (q n).1 (dy T (q n).2.1) (q n).2.2.1 false).toInt32))))
set_option maxRecDepth 20000 in
set_option maxHeartbeats 8000000 in
theorem ct_X10_earliest {G : pz_Gx} (hOk : pz_OK G) (gh : gt_X10_earliest) : pz_M G yX10_earliest cX10_earliest 9 (some .long) rm_X10_earliest (pr_X10_earliest gh) (po_X10_earliest gh) := by
  obtain ⟨⟨p0, p1, t⟩, ⟨from', to, K, w, q⟩, ⟨nl, ne, nz, nw, cn⟩, mo, M, I, Ai, Aj⟩ := gh
  refine pz_ofZ (by decide) hOk.1 (Or.inr (Or.inr (Or.inr (Or.inl rfl)))) ?_ ?_
  · rintro av g ⟨rfl, -⟩
    exact Nat.le_of_ble_eq_true rfl
  · rintro X hX hGX hrm - av g ⟨rfl, hW, hgd, hm⟩ hR
    have h1 := hm.1
    -- accepted
    have acc : ∀ (T : Nat) (g2 : pz_H), p0 = nI from' → from' < 100 → p1 = nI to → to < 100 → T ≤ 1700000000 → t = lN T → (ee Ai Aj ne nz nw cn from' T nl 6 (600 + to) ≠ 9223372036854775807 → me_K Ai Aj ne nz nw cn from' T nl to K w q) → hg moL g g2 → moS g2 mo M (upd I 0 0) Ai Aj → (me_bad p0 p1 || !wi t 0 1700000000) = false → pz_Z X 9 45 [(0, .inr (.inr (some mo))), (1, .inl p0), (2, .inl p1), (3, .inr (.inl t))] [] g2 0 0 := by
      intro T g2 e0 hfr e1 hto hT e2 hK hS2 hm2 hok
      subst e0 e1 e2
      generalize hI0 : upd I 0 0 = I0 at hm2
      have hW0 : moW I0 Ai nl ne nz nw cn := by rw [← hI0]; exact moW_I (by decide) hW
      -- the legs
      have loopW : ∀ (n : Nat) (gk : pz_H) (B : Nat → Nat → Int32) (A : Nat → Nat → Int64), n ≤ K → ee Ai Aj ne nz nw cn from' T nl 6 (600 + to) ≠ 9223372036854775807 → hg moL g gk → moS gk mo M (upd I0 22 (nI K)) B A → agI [23, 25, 26] Ai B → agJ [21, 24, 29, 30] Aj A → A 21 = ee Ai Aj ne nz nw cn from' T nl 6 → (∀ k, n ≤ k → k < K → B 23 k = nI (q k).1 ∧ A 24 k = dy T (q k).2.1 ∧ B 25 k = nI (q k).2.2.2 ∧ B 26 k = nI (q k).2.2.1) → pz_Z X 9 177 [(8, .inl (nI n)), (7, .inl (nI (w n))), (5, .inr (.inl (ee Ai Aj ne nz nw cn from' T nl 6 (600 + to)))), (0, .inr (.inr (some mo))), (1, .inl (nI from')), (2, .inl (nI to)), (3, .inr (.inl (lN T)))] [] gk 0 0 := by
        intro n
        induction n with
        | zero =>
          intro gk B A _ hbe hS hmk hagI hagJ hA hq
          obtain ⟨hK6, hKe, hKl, hwK, hwq⟩ := hK hbe
          refine bX10_earliest_177 hX _ _ _ _ _ ⟨fun _ => ?_, fun z => absurd (show nI 0 ≤ (0 : Int32) by decide) z⟩
          refine bX10_earliest_227 hX _ _ _ _ _ ?_
          have hbd : ∀ k, k < K → (q k).1 < 40 ∧ (q k).2.2.2 < 12 ∧ (q k).2.2.1 < 12 := by
            intro k hk
            have hb : 0 ≤ (q k).1 ∧ (q k).1 < 0 + nl ∧ (q k).2.1 < 13 ∧ (q k).2.2.1 < cn (q k).1 ∧ (q k).2.2.2 < (q k).2.2.1 := mc_n_bd (hwq k hk).1
            have := (hW0.2.2.2.2 (q k).1 (by omega)).2.1
            have := hW0.1.2
            omega
          refine bX10_earliest_228 hX hR hrm hGX hOk ((K, fun k => (q k).1, fun k => (q k).2.2.2, fun k => (q k).2.2.1), (nz, nw), (mo, M, upd I0 22 (nI K), B, A)) (by decide) _ _ _ _ _ ⟨Nat.le_of_ble_eq_true rfl, ⟨mo, [], [100], _, rfl, hmk.1⟩, Nat.le_of_ble_eq_true rfl, Nat.le_of_ble_eq_true rfl, Nat.le_of_ble_eq_true rfl, ⟨rfl, pk_us, hK6, fun k hk => ⟨⟨(hq k (Nat.zero_le _) hk).1, (hbd k hk).1⟩, ⟨(hq k (Nat.zero_le _) hk).2.2.1, (hbd k hk).2.1⟩, ⟨(hq k (Nat.zero_le _) hk).2.2.2, (hbd k hk).2.2⟩⟩, by rw [pk_un (by decide)]; exact hW0.2.2.1.1, hW0.2.2.1.2, by rw [pk_un (by decide)]; exact hW0.2.2.2.1.1, hW0.2.2.2.1.2, hmk⟩, ?_⟩
          rintro v g3 ⟨rfl, hS3, B2, hm3, hag3, ht3⟩ -
          refine ⟨Nat.le_refl _, Nat.le_refl _, hg_tr hS hS3, Or.inr ⟨hok, T, hT, rfl, Or.inr ⟨hbe, rfl, B2, A, by rw [hI0]; exact hm3, agI_tr (agI_mono hagI (by decide)) (agI_mono hag3 (by decide)), hagJ, fun n hn => ?_⟩⟩⟩
          obtain ⟨a1, a2, a3, a4⟩ := hq n (Nat.zero_le _) hn
          obtain ⟨b1, b2⟩ := ht3 n hn
          refine ⟨by rw [hag3 23 (by decide)]; exact a1, a2, by rw [hag3 25 (by decide)]; exact a3, by rw [hag3 26 (by decide)]; exact a4, ?_, ?_⟩
          · rw [b1, a2, mt_agI hagI (by decide), mt_ag hagJ (by decide)]
          · rw [b2, a2, mt_agI hagI (by decide), mt_ag hagJ (by decide)]
        | succ n ih =>
          intro gk B A hnK hbe hS hmk hagI hagJ hA hq
          obtain ⟨hK6, hKe, hKl, hwK, hwq⟩ := hK hbe
          have hw1 : w (n + 1) < 100 := by
            by_cases e : n + 1 = K
            · rw [e, hwK]; exact hto
            · exact (hwq (n + 1) (by omega)).2.2
          obtain ⟨hmc, hP4, hwn⟩ := hwq n (by omega)
          refine bX10_earliest_177 hX _ _ _ _ _ ⟨fun z => absurd ((ni_le (b := 0) (by omega) (by omega)).mp z) (by omega), fun _ => ?_⟩
          refine bX10_earliest_182 hX _ _ _ _ _ ?_
          refine bX10_earliest_189 hX hrm hGX hOk ((n, w (n + 1), from', T), (nl, ne, nz, nw, cn), (mo, M, upd I0 22 (nI K), B, A)) (by decide) _ _ _ _ _ ⟨Nat.le_of_ble_eq_true rfl, ⟨mo, [.inl (nI (n + 1)), .inl (nI (w (n + 1))), .inl (nI from'), .inr (.inl (lN T))], [100], _, rfl, hmk.1⟩, Nat.le_of_ble_eq_true rfl, Nat.le_of_ble_eq_true rfl, Nat.le_of_ble_eq_true rfl, ⟨rfl, by omega, hw1, hfr, hT, moW_I (by decide) (moW_ag hagI (by decide) hW0), hmk⟩, ?_⟩
          rintro v g3 ⟨rfl, hS3, B3, A3, hm3, hI3, hJ3, hw3⟩ -
          have hJs : agJ [24, 29, 30] (seqJ Aj 21 (ee Ai Aj ne nz nw cn from' T nl 6)) A := by
            intro k hk
            by_cases e : k = 21
            · subst e; rw [seqJ_at, hA]
            · rw [seqJ_ne e]
              refine hagJ k (fun z => hk ?_)
              simp only [List.mem_cons, List.not_mem_nil, or_false] at z ⊢
              omega
          rw [mc_n_ag hagI hJs, hmc] at hw3
          rcases hqn : q n with ⟨l, r, j, i⟩
          rw [hqn] at hw3 hP4
          obtain ⟨hb23, hb24, hb25, hb26⟩ := hw3
          have hbd := mc_n_bd (hqn ▸ hmc)
          have hl40 := hW0.1.2
          have hc12 := (hW0.2.2.2.2 l (by omega)).2.1
          have hn1 : nI (n + 1) - 1 = nI n := ni_pred (n := n + 1) (by omega)
          have hni : vp_in (nI n) 6 := ni_in (by omega) (by omega)
          have hnc : (nI n).toNatClampNeg = n := ni_cl (by omega)
          refine ⟨_, _, _, hm3.1, rfl, _, _, _, hm3.1, rfl, _, _, _, hm3.2.1 23 (by decide), by rw [hn1]; exact hni, ?_⟩
          rw [hn1, hnc, hb23, pk_us]
          refine ⟨_, _, _, hm3.1, rfl, _, _, _, hm3.2.1 25 (by decide), by rw [hn1]; exact hni, ?_⟩
          rw [hn1, hnc, hb25, pk_us]
          refine ⟨_, _, _, hm3.2.1 4 (by decide), by rw [ix_12]; exact ni_in (by show 12 * l + i < 480; omega) (by decide), ?_⟩
          rw [ix_12, ni_cl (j := 12 * l + i) (by omega), hI3 4 (by decide), hagI 4 (by decide), hP4]
          refine pz_lsub (lv' := [(8, .inl (nI n)), (7, .inl (nI (w n))), (5, .inr (.inl (ee Ai Aj ne nz nw cn from' T nl 6 (600 + to)))), (0, .inr (.inr (some mo))), (1, .inl (nI from')), (2, .inl (nI to)), (3, .inr (.inl (lN T)))]) ⟨(show some (Sum.inl (nI (n + 1) + (-1)) : pz_V) = some (Sum.inl (nI n)) by rw [pk_m1]), rfl, rfl, rfl, rfl, rfl, rfl, trivial⟩ ?_
          refine ih g3 B3 A3 (by omega) hbe (hg_tr hS hS3) hm3 (agI_tr hagI hI3) (agJ_tr hagJ (agJ_mono hJ3 (by decide))) (by rw [hJ3 21 (by decide), hA]) (fun k hk hkK => ?_)
          by_cases e : k = n
          · subst e
            rw [hb23, hb24, hb25, hb26, pk_us, pk_us, pk_us, pk_uLs, hqn]
            exact ⟨rfl, rfl, rfl, rfl⟩
          · rw [hb23, hb24, hb25, hb26, pk_un e, pk_un e, pk_un e, pk_uLn e]
            exact hq k (by omega) hkK
      -- how many legs
      have loopK : ∀ (m k : Nat) (gk : pz_H) (A : Nat → Nat → Int64), k + m = K → ee Ai Aj ne nz nw cn from' T nl 6 (600 + to) ≠ 9223372036854775807 → hg moL g gk → moS gk mo M (upd I0 22 (nI k)) Ai A → agJ [21, 24, 29, 30] Aj A → A 21 = ee Ai Aj ne nz nw cn from' T nl 6 → pz_Z X 9 135 [(5, .inr (.inl (ee Ai Aj ne nz nw cn from' T nl 6 (600 + to)))), (0, .inr (.inr (some mo))), (1, .inl (nI from')), (2, .inl (nI to)), (3, .inr (.inl (lN T)))] [] gk 0 0 := by
        intro m
        induction m with
        | zero =>
          intro k gk A hk hbe hS hmk hagJ hA
          obtain ⟨hK6, hKe, hKl, hwR⟩ := hK hbe
          obtain rfl : k = K := by omega
          have h21 : gk (M 21) = some ([101, 21], ar_j 700 (A 21)) := hmk.2.2.2 21 (by decide)
          have h22 : upd I0 22 (nI k) 22 = nI k := pk_us
          refine bX10_earliest_135 hX _ _ _ _ _ ⟨_, _, _, hmk.1, rfl, _, _, _, hmk.1, rfl, ?_⟩
          rw [h22]
          refine ⟨_, _, _, h21, by rw [ix_100]; exact ni_in (by show 100 * k + to < 700; omega) (by decide), ?_⟩
          rw [ix_100, ni_cl (j := 100 * k + to) (by omega), hA]
          refine ⟨fun _ => ?_, fun z => absurd ((lc_eq _ _).mpr hKe) z⟩
          refine bX10_earliest_168 hX _ _ _ _ _ ⟨_, _, _, hmk.1, rfl, ?_⟩
          rw [h22]
          refine pz_lsub (lv' := [(8, .inl (nI k)), (7, .inl (nI (w k))), (5, .inr (.inl (ee Ai Aj ne nz nw cn from' T nl 6 (600 + to)))), (0, .inr (.inr (some mo))), (1, .inl (nI from')), (2, .inl (nI to)), (3, .inr (.inl (lN T)))]) ⟨rfl, (by rw [hwR.1]; rfl), rfl, rfl, rfl, rfl, rfl, trivial⟩ ?_
          exact loopW k gk Ai A (Nat.le_refl _) hbe hS hmk agI_rf hagJ hA (fun j h1 h2 => absurd h2 (by omega))
        | succ m ih =>
          intro k gk A hk hbe hS hmk hagJ hA
          obtain ⟨hK6, hKe, hKl, hwR⟩ := hK hbe
          have h21 : gk (M 21) = some ([101, 21], ar_j 700 (A 21)) := hmk.2.2.2 21 (by decide)
          have h22 : upd I0 22 (nI k) 22 = nI k := pk_us
          refine bX10_earliest_135 hX _ _ _ _ _ ⟨_, _, _, hmk.1, rfl, _, _, _, hmk.1, rfl, ?_⟩
          rw [h22]
          refine ⟨_, _, _, h21, by rw [ix_100]; exact ni_in (by show 100 * k + to < 700; omega) (by decide), ?_⟩
          rw [ix_100, ni_cl (j := 100 * k + to) (by omega), hA]
          refine ⟨fun z => absurd ((lc_eq _ _).mp z) (hKl k (by omega)), fun _ => ?_⟩
          refine bX10_earliest_155 hX _ _ _ _ _ ⟨rfl, _, _, _, hmk.1, rfl, ?_⟩
          rw [h22]
          obtain ⟨hm3, hS3⟩ := mo_f hmk 22 (by decide) (nI (k + 1))
          rw [upd_upd] at hm3
          refine ⟨_, _, hmk.1, Nat.le_of_ble_eq_true rfl, ?_⟩
          rw [nI_1]
          exact ih (k + 1) _ A (by omega) hbe (hg_tr hS hS3) hm3 hagJ hA
      -- behind the rounds
      have at105 : ∀ (gk : pz_H) (A : Nat → Nat → Int64), hg moL g gk → moS gk mo M I0 Ai A → agJ [21, 24, 29, 30] Aj A → A 21 = ee Ai Aj ne nz nw cn from' T nl 6 → pz_Z X 9 105 [(0, .inr (.inr (some mo))), (1, .inl (nI from')), (2, .inl (nI to)), (3, .inr (.inl (lN T)))] [] gk 0 0 := by
        intro gk A hS hmk hagJ hA
        have h21 : gk (M 21) = some ([101, 21], ar_j 700 (A 21)) := hmk.2.2.2 21 (by decide)
        have e6 : (600 : Int32) + nI to = nI (600 + to) := by rw [show (600 : Int32) = nI 600 from rfl, nI_add]
        obtain ⟨hm3, hS3⟩ := mo_f hmk 22 (by decide) 0
        refine bX10_earliest_105 hX _ _ _ _ _ ⟨_, _, _, hmk.1, rfl, _, _, _, h21, by rw [e6]; exact ni_in (by show 600 + to < 700; omega) (by decide), ?_⟩
        rw [e6, ni_cl (j := 600 + to) (by omega), hA]
        refine ⟨_, _, hmk.1, Nat.le_of_ble_eq_true rfl, fun z => ?_, fun z => ?_⟩
        · have hbe : ee Ai Aj ne nz nw cn from' T nl 6 (600 + to) ≠ 9223372036854775807 := fun y => z ((lc_eq _ _).mpr y)
          refine pz_lsub (lv' := [(5, .inr (.inl (ee Ai Aj ne nz nw cn from' T nl 6 (600 + to)))), (0, .inr (.inr (some mo))), (1, .inl (nI from')), (2, .inl (nI to)), (3, .inr (.inl (lN T)))]) ⟨rfl, rfl, rfl, rfl, rfl, trivial⟩ ?_
          exact loopK K 0 _ A (by omega) hbe (hg_tr hS hS3) hm3 hagJ hA
        · have hbe : ee Ai Aj ne nz nw cn from' T nl 6 (600 + to) = 9223372036854775807 := (lc_eq _ _).mp z
          exact bX10_earliest_131 hX hR _ _ _ _ _ ⟨Nat.le_refl _, Nat.le_refl _, hg_tr hS hS3, Or.inr ⟨hok, T, hT, rfl, Or.inl ⟨hbe, rfl, A, by rw [hI0]; exact hm3, hagJ⟩⟩⟩
      -- the rounds
      have loopR : ∀ (m n : Nat) (gk : pz_H) (A : Nat → Nat → Int64), n + m = 6 → hg moL g gk → moS gk mo M I0 Ai A → agJ [21, 29, 30] Aj A → A 21 = ee Ai Aj ne nz nw cn from' T nl n → pz_Z X 9 84 [(5, .inl (nI (n + 1))), (0, .inr (.inr (some mo))), (1, .inl (nI from')), (2, .inl (nI to)), (3, .inr (.inl (lN T)))] [] gk 0 0 := by
        intro m
        induction m with
        | zero =>
          intro n gk A hn hS hmk hagJ hA
          obtain rfl : n = 6 := by omega
          refine bX10_earliest_84 hX _ _ _ _ _ ⟨fun _ => ?_, fun z => absurd (show (6 : Int32) < nI (6 + 1) by decide) z⟩
          exact pz_lsub (by exact ⟨rfl, rfl, rfl, rfl, trivial⟩) (at105 gk A hS hmk (agJ_mono hagJ (by decide)) hA)
        | succ m ih =>
          intro n gk A hn hS hmk hagJ hA
          refine bX10_earliest_84 hX _ _ _ _ _ ⟨fun z => absurd ((ni_lt (a := 6) (by omega) (by omega)).mp z) (by omega), fun _ => ?_⟩
          refine bX10_earliest_91 hX _ _ _ _ _ ?_
          refine bX10_earliest_96 hX hrm hGX hOk ((n, from', T), (nl, ne, nz, nw, cn), (mo, M, I0, Ai, A)) (by decide) _ _ _ _ _ ⟨Nat.le_of_ble_eq_true rfl, ⟨mo, [.inl (nI (n + 1)), .inl (nI from'), .inr (.inl (lN T))], [100], _, rfl, hmk.1⟩, Nat.le_of_ble_eq_true rfl, Nat.le_of_ble_eq_true rfl, Nat.le_of_ble_eq_true rfl, ⟨rfl, by omega, hfr, hT, hW0, hmk⟩, ?_⟩
          rintro v g3 ⟨rfl, hS3, A3, hm3, hJ3, hE3⟩ -
          refine pz_lsub (lv' := [(5, .inl (nI (n + 1 + 1))), (0, .inr (.inr (some mo))), (1, .inl (nI from')), (2, .inl (nI to)), (3, .inr (.inl (lN T)))]) ⟨ni_inc, rfl, rfl, rfl, rfl, trivial⟩ ?_
          refine ih (n + 1) g3 A3 (by omega) (hg_tr hS hS3) hm3 (agJ_tr hagJ hJ3) ?_
          rw [hE3, me_l_ag hagJ, hA]
          rfl
      -- the first row
      have loopP : ∀ (m p : Nat) (gk : pz_H) (A : Nat → Nat → Int64), p + m = 100 → hg moL g gk → moS gk mo M I0 Ai A → agJ [21, 29, 30] Aj A → A 21 = ee_0 from' T p (Aj 21) → pz_Z X 9 48 [(5, .inl (nI p)), (0, .inr (.inr (some mo))), (1, .inl (nI from')), (2, .inl (nI to)), (3, .inr (.inl (lN T)))] [] gk 0 0 := by
        intro m
        induction m with
        | zero =>
          intro p gk A hp hS hmk hagJ hA
          obtain rfl : p = 100 := by omega
          refine bX10_earliest_48 hX _ _ _ _ _ ⟨fun _ => ?_, fun z => absurd (show (100 : Int32) ≤ nI 100 by decide) z⟩
          refine bX10_earliest_81 hX _ _ _ _ _ ?_
          refine pz_lsub (lv' := [(5, .inl (nI (0 + 1))), (0, .inr (.inr (some mo))), (1, .inl (nI from')), (2, .inl (nI to)), (3, .inr (.inl (lN T)))]) ⟨rfl, rfl, rfl, rfl, rfl, trivial⟩ ?_
          exact loopR 6 0 gk A (by omega) hS hmk hagJ hA
        | succ m ih =>
          intro p gk A hp hS hmk hagJ hA
          have h21 : gk (M 21) = some ([101, 21], ar_j 700 (A 21)) := hmk.2.2.2 21 (by decide)
          have st : ∀ x : Int64, (x = if p = from' then lN T else 9223372036854775807) → pz_Z X 9 74 [(5, .inl (nI p)), (0, .inr (.inr (some mo))), (1, .inl (nI from')), (2, .inl (nI to)), (3, .inr (.inl (lN T)))] [.inr (.inl x), .inl (nI p), .inr (.inr (some (M 21)))] gk 0 0 := by
            intro x hx
            obtain ⟨hm3, hS3⟩ := mo_j hmk 21 (by decide) (vp_updL (A 21) p x)
            refine bX10_earliest_74 hX _ _ _ _ _ ⟨_, _, _, h21, ni_in (by omega) (by omega), ?_⟩
            rw [ni_cl (by omega)]
            refine pz_lsub (lv' := [(5, .inl (nI (p + 1))), (0, .inr (.inr (some mo))), (1, .inl (nI from')), (2, .inl (nI to)), (3, .inr (.inl (lN T)))]) ⟨ni_inc, rfl, rfl, rfl, rfl, trivial⟩ ?_
            refine ih (p + 1) _ _ (by omega) (hg_tr hS hS3) hm3 (agJ_sq hagJ (by decide)) ?_
            rw [seqJ_at, hA, ee_0s hx]
          refine bX10_earliest_48 hX _ _ _ _ _ ⟨fun z => absurd ((ni_le (a := 100) (by omega) (by omega)).mp z) (by omega), fun _ => ?_⟩
          refine bX10_earliest_55 hX _ _ _ _ _ ⟨_, _, _, hmk.1, rfl, fun z => ?_, fun z => ?_⟩
          · refine bX10_earliest_71 hX _ _ _ _ _ ?_
            exact st _ (by rw [if_neg (fun e => z (by rw [e]))])
          · refine bX10_earliest_67 hX _ _ _ _ _ ?_
            exact st _ (by rw [if_pos (ni_inj (by omega) (by omega) z)])
      refine bX10_earliest_45 hX _ _ _ _ _ ?_
      refine pz_lsub (lv' := [(5, .inl (nI 0)), (0, .inr (.inr (some mo))), (1, .inl (nI from')), (2, .inl (nI to)), (3, .inr (.inl (lN T)))]) ⟨rfl, rfl, rfl, rfl, rfl, trivial⟩ ?_
      refine loopP 100 0 g2 Aj (by omega) hS2 hm2 agJ_rf ?_
      funext k
      exact (if_neg (Nat.not_lt_zero k)).symm
    have at36 : ∀ (a b : Bool), a = me_bad p0 p1 → b = !wi t 0 1700000000 → pz_Z X 9 36 [(0, .inr (.inr (some mo))), (1, .inl p0), (2, .inl p1), (3, .inr (.inl t))] [.inl (b01 b), .inl (b01 a), .inr (.inr (some mo))] g 0 0 := by
      intro a b ha hb
      refine bX10_earliest_36 hX _ _ _ _ _ ?_
      refine bX10_earliest_37 hX hrm hGX hOk ((mo, a, b, false), M, I) (by decide) _ _ _ _ _ ⟨Nat.le_of_ble_eq_true rfl, ⟨mo, [.inl (b01 a), .inl (b01 b), .inl 0], [100], _, rfl, h1⟩, Nat.le_of_ble_eq_true rfl, Nat.le_of_ble_eq_true rfl, Nat.le_of_ble_eq_true rfl, ⟨rfl, h1⟩, ?_⟩
      rintro v g2 ⟨rfl, rfl⟩ y hy -
      cases hy
      rw [Bool.or_false]
      obtain ⟨hm2, hS2⟩ := mo_f hm 0 (by decide) (rf3 a b false)
      refine ⟨fun z => ?_, fun z => ?_⟩
      · rw [b01_z] at z
        have hq := Bool.or_eq_false_iff.mp z
        rw [show rf3 a b false = 0 by rw [hq.1, hq.2]; rfl] at hm2 hS2 ⊢
        obtain ⟨c1, c2, c3, c4, T, c5, c6, c7⟩ := hgd (by rw [← ha]; exact hq.1) (by
          have := hb ▸ hq.2
          simpa using this)
        exact acc T _ c1 c2 c3 c4 c5 c6 c7 hS2 hm2 (by rw [← ha, ← hb]; exact z)
      · rw [b01_nz] at z
        exact bX10_earliest_43 hX hR _ _ _ _ _ ⟨Nat.le_refl _, Nat.le_refl _, hS2, Or.inl ⟨by rw [← ha, ← hb]; exact z, rfl, by rw [← ha, ← hb]; exact hm2⟩⟩
    have at20 : ∀ (a : Bool), a = me_bad p0 p1 → pz_Z X 9 20 [(0, .inr (.inr (some mo))), (1, .inl p0), (2, .inl p1), (3, .inr (.inl t))] [.inl (b01 a), .inr (.inr (some mo))] g 0 0 := by
      intro a ha
      refine bX10_earliest_20 hX _ _ _ _ _ ?_
      refine bX10_earliest_25 hX hrm hGX hOk (t, 0, 1700000000) (by decide) _ _ _ _ _ ⟨Nat.le_of_ble_eq_true rfl, Nat.le_of_ble_eq_true rfl, Nat.le_of_ble_eq_true rfl, Nat.le_of_ble_eq_true rfl, rfl, ?_⟩
      rintro v g2 ⟨rfl, rfl⟩ y hy -
      cases hy
      refine ⟨fun z => ?_, fun z => ?_⟩
      · rw [b01_nz] at z
        refine bX10_earliest_35 hX _ _ _ _ _ ?_
        exact at36 a false ha (by rw [z]; rfl)
      · rw [b01_z] at z
        refine bX10_earliest_31 hX _ _ _ _ _ ?_
        exact at36 a true ha (by rw [z]; rfl)
    have bad : me_bad p0 p1 = true → pz_Z X 9 15 [(0, .inr (.inr (some mo))), (1, .inl p0), (2, .inl p1), (3, .inr (.inl t))] [.inr (.inr (some mo))] g 0 0 := by
      intro hb
      refine bX10_earliest_15 hX _ _ _ _ _ ?_
      exact at20 true hb.symm
    refine bX10_earliest_0 hX _ _ _ _ _ ?_
    refine bX10_earliest_2 hX hrm hGX hOk p0 (by decide) _ _ _ _ _ ⟨Nat.le_of_ble_eq_true rfl, Nat.le_of_ble_eq_true rfl, Nat.le_of_ble_eq_true rfl, Nat.le_of_ble_eq_true rfl, rfl, ?_⟩
    rintro v g2 ⟨rfl, rfl⟩ y hy -
    cases hy
    refine ⟨fun z => ?_, fun z => ?_⟩
    · rw [b01_z] at z
      exact bad (by unfold me_bad; rw [z]; rfl)
    · rw [b01_nz] at z
      refine bX10_earliest_8 hX _ _ _ _ _ ?_
      refine bX10_earliest_9 hX hrm hGX hOk p1 (by decide) _ _ _ _ _ ⟨Nat.le_of_ble_eq_true rfl, Nat.le_of_ble_eq_true rfl, Nat.le_of_ble_eq_true rfl, Nat.le_of_ble_eq_true rfl, rfl, ?_⟩
      rintro v g2 ⟨rfl, rfl⟩ y hy -
      cases hy
      refine ⟨fun z2 => ?_, fun z2 => ?_⟩
      · rw [b01_nz] at z2
        refine bX10_earliest_19 hX _ _ _ _ _ ?_
        exact at20 false (by unfold me_bad; rw [z, z2]; rfl)
      · rw [b01_z] at z2
        exact bad (by unfold me_bad; rw [z2]; simp)
