/-! the reference: runs, lateAt, minutesAt, timeAt -/
abbrev mo_T : Type := Nat × (Nat → Nat) × (Nat → Int32) × (Nat → Nat → Int32) × (Nat → Nat → Int64)
def moT (g : pz_H) : mo_T → Prop := fun (mo, M, I, Ai, Aj) => moS g mo M I Ai Aj
def mr_p (Ai : Nat → Nat → Int32) (Aj : Nat → Nat → Int64) (l : Int32) (d : Int64) (k : Nat) : Bool := decide (Ai 8 k = l) && decide (Aj 9 k = d)
def mr_run (Ai : Nat → Nat → Int32) (Aj : Nat → Nat → Int64) (ne l : Nat) (d : Int64) : Int32 := if d < 0 then 0 else match fs_s (mr_p Ai Aj (nI l) d) 0 ne with
  | some k => Ai 10 k
  | none => if Ai 2 l >>> ((d - d / 7 * 7).toInt32 &&& 31) &&& 1 = 1 then 1 else 0
set_option maxRecDepth 20000 in
theorem bX10_runs_0 {X : pz_C} (hX : pz_X X cX10_runs 5 RX10) : ∀ lv st g c s, (zo_ll 1 2 (zo_lc 1 (0) (zo_lcmp (zo_if_ge 8 (pz_Z X 5))))) 0 lv st g c s → pz_Z X 5 0 lv st g c s := (zs_lload_n hX dX10_runs_0 rfl (zs_lconst hX dX10_runs_1 (by decide) (zs_lcmp hX dX10_runs_2 (zs_if_ge hX dX10_runs_3 (by decide) (fun _ _ _ _ _ _ h => h)))))
set_option maxRecDepth 20000 in
theorem bX10_runs_6 {X : pz_C} {rm : Room} {E : Option pz_V → pz_H → Prop} (hX : pz_X X cX10_runs 5 RX10) (hR : pz_Rt X cX10_runs 5 (some .boolean) rm E) : ∀ lv st g c s, (zo_ic 1 (0) (zo_rz rm E)) 6 lv st g c s → pz_Z X 5 6 lv st g c s := (zs_iconst hX dX10_runs_6 (by decide) (zs_rz hR dX10_runs_7))
set_option maxRecDepth 20000 in
theorem bX10_runs_8 {X : pz_C} (hX : pz_X X cX10_runs 5 RX10) : ∀ lv st g c s, (zo_ic 1 (0) (zo_is 2 4 (pz_Z X 5))) 8 lv st g c s → pz_Z X 5 8 lv st g c s := (zs_iconst hX dX10_runs_8 (by decide) (zs_istore hX dX10_runs_9 (by decide) (fun _ _ _ _ _ h => h)))
set_option maxRecDepth 20000 in
theorem bX10_runs_11 {X : pz_C} (hX : pz_X X cX10_runs 5 RX10) : ∀ lv st g c s, (zo_il 2 4 (zo_al 1 0 (zo_get 12 7 (zo_ic_ge 57 (pz_Z X 5))))) 11 lv st g c s → pz_Z X 5 11 lv st g c s := (zs_iload hX dX10_runs_11 (zs_aload_n hX dX10_runs_13 rfl (zs_get hX (C := RX10) (T := TX10) (N := 37) rfl in_X10 (by decide) mw_bba43add dX10_runs_14 (zs_ic_ge hX dX10_runs_17 (by decide) (fun _ _ _ _ _ _ h => h)))))
set_option maxRecDepth 20000 in
theorem bX10_runs_20 {X : pz_C} (hX : pz_X X cX10_runs 5 RX10) : ∀ lv st g c s, (zo_al 1 0 (zo_get 12 8 (zo_il 2 4 (zo_iald (zo_il 1 1 (zo_ic_ne 51 (pz_Z X 5))))))) 20 lv st g c s → pz_Z X 5 20 lv st g c s := (zs_aload_n hX dX10_runs_20 rfl (zs_get hX (C := RX10) (T := TX10) (N := 37) rfl in_X10 (by decide) mw_2a6260c2 dX10_runs_21 (zs_iload hX dX10_runs_24 (zs_iald hX dX10_runs_26 (zs_iload_n hX dX10_runs_27 rfl (zs_ic_ne hX dX10_runs_28 (by decide) (fun _ _ _ _ _ _ h => h)))))))
set_option maxRecDepth 20000 in
theorem bX10_runs_31 {X : pz_C} (hX : pz_X X cX10_runs 5 RX10) : ∀ lv st g c s, (zo_al 1 0 (zo_get 12 9 (zo_il 2 4 (zo_lald (zo_ll 1 2 (zo_lcmp (zo_if_ne 51 (pz_Z X 5)))))))) 31 lv st g c s → pz_Z X 5 31 lv st g c s := (zs_aload_n hX dX10_runs_31 rfl (zs_get hX (C := RX10) (T := TX10) (N := 37) rfl in_X10 (by decide) mw_5ad55f98 dX10_runs_32 (zs_iload hX dX10_runs_35 (zs_lald hX dX10_runs_37 (zs_lload_n hX dX10_runs_38 rfl (zs_lcmp hX dX10_runs_39 (zs_if_ne hX dX10_runs_40 (by decide) (fun _ _ _ _ _ _ h => h))))))))
set_option maxRecDepth 20000 in
theorem bX10_runs_43 {X : pz_C} {rm : Room} {E : Option pz_V → pz_H → Prop} (hX : pz_X X cX10_runs 5 RX10) (hR : pz_Rt X cX10_runs 5 (some .boolean) rm E) : ∀ lv st g c s, (zo_al 1 0 (zo_get 12 10 (zo_il 2 4 (zo_zald (zo_rz rm E))))) 43 lv st g c s → pz_Z X 5 43 lv st g c s := (zs_aload_n hX dX10_runs_43 rfl (zs_get hX (C := RX10) (T := TX10) (N := 37) rfl in_X10 (by decide) mw_be70b4db dX10_runs_44 (zs_iload hX dX10_runs_47 (zs_zald hX dX10_runs_49 (zs_rz hR dX10_runs_50)))))
set_option maxRecDepth 20000 in
theorem bX10_runs_51 {X : pz_C} (hX : pz_X X cX10_runs 5 RX10) : ∀ lv st g c s, (zo_inc 4 (1) (zo_goto 11 (pz_Z X 5))) 51 lv st g c s → pz_Z X 5 51 lv st g c s := (zs_iinc hX dX10_runs_51 (by decide) (by decide) (zs_goto hX dX10_runs_54 (by decide) (fun _ _ _ _ _ _ h => h)))
set_option maxRecDepth 20000 in
theorem bX10_runs_57 {X : pz_C} (hX : pz_X X cX10_runs 5 RX10) : ∀ lv st g c s, (zo_ll 1 2 (zo_lc 3 (7) (zo_lrem (zo_l2i (zo_is 2 4 (zo_al 1 0 (zo_get 12 2 (zo_il 1 1 (zo_iald (zo_il 2 4 (zo_ishr (zo_ic 1 (1) (zo_iand (zo_ic 1 (1) (zo_ic_ne 84 (pz_Z X 5)))))))))))))))) 57 lv st g c s → pz_Z X 5 57 lv st g c s := (zs_lload_n hX dX10_runs_57 rfl (zs_ldc2 hX dX10_runs_58 mw_7ccb59e7 (zs_lrem hX dX10_runs_61 (zs_l2i hX dX10_runs_62 (zs_istore hX dX10_runs_63 (by decide) (zs_aload_n hX dX10_runs_65 rfl (zs_get hX (C := RX10) (T := TX10) (N := 37) rfl in_X10 (by decide) mw_803dc064 dX10_runs_66 (zs_iload_n hX dX10_runs_69 rfl (zs_iald hX dX10_runs_70 (zs_iload hX dX10_runs_71 (zs_ishr hX dX10_runs_73 (zs_iconst hX dX10_runs_74 (by decide) (zs_iand hX dX10_runs_75 (zs_iconst hX dX10_runs_76 (by decide) (zs_ic_ne hX dX10_runs_77 (by decide) (fun _ _ _ _ _ _ h => h))))))))))))))))
set_option maxRecDepth 20000 in
theorem bX10_runs_80 {X : pz_C} (hX : pz_X X cX10_runs 5 RX10) : ∀ lv st g c s, (zo_ic 1 (1) (zo_goto 85 (pz_Z X 5))) 80 lv st g c s → pz_Z X 5 80 lv st g c s := (zs_iconst hX dX10_runs_80 (by decide) (zs_goto hX dX10_runs_81 (by decide) (fun _ _ _ _ _ _ h => h)))
set_option maxRecDepth 20000 in
theorem bX10_runs_84 {X : pz_C} (hX : pz_X X cX10_runs 5 RX10) : ∀ lv st g c s, (zo_ic 1 (0) (pz_Z X 5)) 84 lv st g c s → pz_Z X 5 84 lv st g c s := (zs_iconst hX dX10_runs_84 (by decide) (fun _ _ _ _ _ h => h))
set_option maxRecDepth 20000 in
theorem bX10_runs_85 {X : pz_C} {rm : Room} {E : Option pz_V → pz_H → Prop} (hX : pz_X X cX10_runs 5 RX10) (hR : pz_Rt X cX10_runs 5 (some .boolean) rm E) : ∀ lv st g c s, (zo_rz rm E) 85 lv st g c s → pz_Z X 5 85 lv st g c s := (zs_rz hR dX10_runs_85)
def rm_X10_runs : Room := { frames := 0, cells := 0, slots := 0, locals := 0 }
abbrev gt_X10_runs : Type := (Nat × Int64 × Nat) × mo_T
def pr_X10_runs : gt_X10_runs → List pz_V → pz_H → Prop := fun ((l, d, ne), (mo, M, I, Ai, Aj)) av g => av = [.inr (.inr (some mo)), .inl (nI l), .inr (.inl d)] ∧ l < 40 ∧ I 7 = nI ne ∧ ne ≤ 100 ∧ (∀ k, k < ne → Ai 10 k = 0 ∨ Ai 10 k = 1) ∧ moS g mo M I Ai Aj
def po_X10_runs : gt_X10_runs → List pz_V → pz_H → Option pz_V → pz_H → Prop := fun ((l, d, ne), (_, _, _, Ai, Aj)) _ g v g' => g' = g ∧ v = some (.inl (mr_run Ai Aj ne l d))
set_option maxRecDepth 20000 in
set_option maxHeartbeats 4000000 in
theorem ct_X10_runs {G : pz_Gx} (hOk : pz_OK G) (gh : gt_X10_runs) : pz_M G yX10_runs cX10_runs 5 (some .boolean) rm_X10_runs (pr_X10_runs gh) (po_X10_runs gh) := by
  obtain ⟨⟨l, d, ne⟩, mo, M, I, Ai, Aj⟩ := gh
  refine pz_ofZ (by decide) hOk.1 (Or.inr (Or.inr (Or.inl rfl))) ?_ ?_
  · rintro av g ⟨rfl, -⟩
    exact Nat.le_of_ble_eq_true rfl
  · rintro X hX hGX hrm - av g ⟨rfl, hl, hne, hne100, h01, h1, hi, hz, hj⟩ hR
    have h2 : g (M 2) = some ([101, 2], ar_i 40 (Ai 2)) := hi 2 (by decide)
    have h8 : g (M 8) = some ([101, 8], ar_i 100 (Ai 8)) := hi 8 (by decide)
    have h9 : g (M 9) = some ([101, 9], ar_j 100 (Aj 9)) := hj 9 (by decide)
    refine bX10_runs_0 hX _ _ _ _ _ ⟨fun q => ?_, fun q => ?_⟩
    · have hd : ¬ d < 0 := Int64.not_lt.mpr ((lc_ge _ _).mp q)
      have loop : ∀ (m k : Nat), k + m = ne → fs_s (mr_p Ai Aj (nI l) d) k m = fs_s (mr_p Ai Aj (nI l) d) 0 ne → pz_Z X 5 11 [(4, .inl (nI k)), (0, .inr (.inr (some mo))), (1, .inl (nI l)), (2, .inr (.inl d))] [] g 0 0 := by
        intro m
        induction m with
        | zero =>
          intro k hk he
          obtain rfl : k = ne := by omega
          refine bX10_runs_11 hX _ _ _ _ _ ⟨_, _, _, h1, rfl, fun _ => ?_, fun q2 => absurd (by rw [hne]; exact Int32.le_refl _) q2⟩
          refine bX10_runs_57 hX _ _ _ _ _ ⟨by decide, _, _, _, h1, rfl, _, _, _, h2, ni_in hl (by omega), ?_⟩
          rw [ni_cl (by omega)]
          have he' : fs_s (mr_p Ai Aj (nI l) d) 0 k = none := he.symm
          refine ⟨fun q2 => ?_, fun q2 => ?_⟩
          · refine bX10_runs_84 hX _ _ _ _ _ ?_
            refine bX10_runs_85 hX hR _ _ _ _ _ ⟨Or.inl rfl, Nat.le_refl _, Nat.le_refl _, rfl, ?_⟩
            unfold mr_run
            rw [if_neg hd, he']
            dsimp only
            rw [if_neg q2]
          · refine bX10_runs_80 hX _ _ _ _ _ ?_
            refine bX10_runs_85 hX hR _ _ _ _ _ ⟨Or.inr rfl, Nat.le_refl _, Nat.le_refl _, rfl, ?_⟩
            unfold mr_run
            rw [if_neg hd, he']
            dsimp only
            rw [if_pos q2]
        | succ m ih =>
          intro k hk he
          have hkc : (nI k).toNatClampNeg = k := ni_cl (by omega)
          have hki : vp_in (nI k) 100 := ni_in (by omega) (by omega)
          have he' : (if mr_p Ai Aj (nI l) d k = true then some k else fs_s (mr_p Ai Aj (nI l) d) (k + 1) m) = fs_s (mr_p Ai Aj (nI l) d) 0 ne := he
          have no : mr_p Ai Aj (nI l) d k = false → pz_Z X 5 51 [(4, .inl (nI k)), (0, .inr (.inr (some mo))), (1, .inl (nI l)), (2, .inr (.inl d))] [] g 0 0 := by
            intro hf
            refine bX10_runs_51 hX _ _ _ _ _ ?_
            refine pz_lsub (lv' := [(4, .inl (nI (k + 1))), (0, .inr (.inr (some mo))), (1, .inl (nI l)), (2, .inr (.inl d))]) ⟨ni_inc, rfl, rfl, rfl, trivial⟩ ?_
            refine ih (k + 1) (by omega) ?_
            rw [hf] at he'
            exact he'
          refine bX10_runs_11 hX _ _ _ _ _ ⟨_, _, _, h1, rfl, fun q2 => ?_, fun _ => ?_⟩
          · rw [hne] at q2
            exact absurd ((ni_le (by omega) (by omega)).mp q2) (by omega)
          refine bX10_runs_20 hX _ _ _ _ _ ⟨_, _, _, h1, rfl, _, _, _, h8, hki, ?_⟩
          rw [hkc]
          refine ⟨fun q2 => ?_, fun q2 => ?_⟩
          · exact no (by unfold mr_p; rw [decide_eq_false q2]; rfl)
          refine bX10_runs_31 hX _ _ _ _ _ ⟨_, _, _, h1, rfl, _, _, _, h9, hki, ?_⟩
          rw [hkc]
          refine ⟨fun q3 => ?_, fun q3 => ?_⟩
          · exact no (by unfold mr_p; rw [decide_eq_false (fun z => q3 ((lc_eq _ _).mpr z)), Bool.and_false])
          have hp : mr_p Ai Aj (nI l) d k = true := by
            unfold mr_p
            rw [decide_eq_true q2, decide_eq_true ((lc_eq _ _).mp q3)]
            rfl
          rw [if_pos hp] at he'
          refine bX10_runs_43 hX hR _ _ _ _ _ ⟨_, _, _, h1, rfl, _, _, _, hz, hki, ?_⟩
          rw [hkc]
          refine ⟨h01 k (by omega), Nat.le_refl _, Nat.le_refl _, rfl, ?_⟩
          unfold mr_run
          rw [if_neg hd, ← he']
      refine bX10_runs_8 hX _ _ _ _ _ ?_
      refine pz_lsub (lv' := [(4, .inl (nI 0)), (0, .inr (.inr (some mo))), (1, .inl (nI l)), (2, .inr (.inl d))]) ⟨rfl, rfl, rfl, rfl, trivial⟩ ?_
      exact loop ne 0 (by omega) rfl
    · have hd : d < 0 := (lc_lt _ _).mp (Int32.not_le.mp q)
      refine bX10_runs_6 hX hR _ _ _ _ _ ⟨Or.inl rfl, Nat.le_refl _, Nat.le_refl _, rfl, ?_⟩
      unfold mr_run
      rw [if_pos hd]
set_option maxRecDepth 20000 in
theorem bX10_lateAt_0 {X : pz_C} (hX : pz_X X cX10_lateAt 8 RX10) : ∀ lv st g c s, (zo_lc 1 (0) (zo_lst 2 5 (zo_ic 1 (0) (zo_is 2 7 (pz_Z X 8))))) 0 lv st g c s → pz_Z X 8 0 lv st g c s := (zs_lconst hX dX10_lateAt_0 (by decide) (zs_lstore hX dX10_lateAt_1 (by decide) (zs_iconst hX dX10_lateAt_3 (by decide) (zs_istore hX dX10_lateAt_4 (by decide) (fun _ _ _ _ _ h => h)))))
set_option maxRecDepth 20000 in
theorem bX10_lateAt_6 {X : pz_C} (hX : pz_X X cX10_lateAt 8 RX10) : ∀ lv st g c s, (zo_il 2 7 (zo_al 1 0 (zo_get 12 15 (zo_ic_ge 72 (pz_Z X 8))))) 6 lv st g c s → pz_Z X 8 6 lv st g c s := (zs_iload hX dX10_lateAt_6 (zs_aload_n hX dX10_lateAt_8 rfl (zs_get hX (C := RX10) (T := TX10) (N := 37) rfl in_X10 (by decide) mw_bc59504b dX10_lateAt_9 (zs_ic_ge hX dX10_lateAt_12 (by decide) (fun _ _ _ _ _ _ h => h)))))
set_option maxRecDepth 20000 in
theorem bX10_lateAt_15 {X : pz_C} (hX : pz_X X cX10_lateAt 8 RX10) : ∀ lv st g c s, (zo_al 1 0 (zo_get 12 16 (zo_il 2 7 (zo_iald (zo_il 1 1 (zo_ic_ne 62 (pz_Z X 8))))))) 15 lv st g c s → pz_Z X 8 15 lv st g c s := (zs_aload_n hX dX10_lateAt_15 rfl (zs_get hX (C := RX10) (T := TX10) (N := 37) rfl in_X10 (by decide) mw_6b61d357 dX10_lateAt_16 (zs_iload hX dX10_lateAt_19 (zs_iald hX dX10_lateAt_21 (zs_iload_n hX dX10_lateAt_22 rfl (zs_ic_ne hX dX10_lateAt_23 (by decide) (fun _ _ _ _ _ _ h => h)))))))
set_option maxRecDepth 20000 in
theorem bX10_lateAt_26 {X : pz_C} (hX : pz_X X cX10_lateAt 8 RX10) : ∀ lv st g c s, (zo_al 1 0 (zo_get 12 19 (zo_il 2 7 (zo_lald (zo_ll 1 3 (zo_lcmp (zo_if_ne 62 (pz_Z X 8)))))))) 26 lv st g c s → pz_Z X 8 26 lv st g c s := (zs_aload_n hX dX10_lateAt_26 rfl (zs_get hX (C := RX10) (T := TX10) (N := 37) rfl in_X10 (by decide) mw_4846735b dX10_lateAt_27 (zs_iload hX dX10_lateAt_30 (zs_lald hX dX10_lateAt_32 (zs_lload_n hX dX10_lateAt_33 rfl (zs_lcmp hX dX10_lateAt_34 (zs_if_ne hX dX10_lateAt_35 (by decide) (fun _ _ _ _ _ _ h => h))))))))
set_option maxRecDepth 20000 in
theorem bX10_lateAt_38 {X : pz_C} (hX : pz_X X cX10_lateAt 8 RX10) : ∀ lv st g c s, (zo_al 1 0 (zo_get 12 17 (zo_il 2 7 (zo_iald (zo_il 1 2 (zo_ic_gt 62 (pz_Z X 8))))))) 38 lv st g c s → pz_Z X 8 38 lv st g c s := (zs_aload_n hX dX10_lateAt_38 rfl (zs_get hX (C := RX10) (T := TX10) (N := 37) rfl in_X10 (by decide) mw_6d2c644d dX10_lateAt_39 (zs_iload hX dX10_lateAt_42 (zs_iald hX dX10_lateAt_44 (zs_iload_n hX dX10_lateAt_45 rfl (zs_ic_gt hX dX10_lateAt_46 (by decide) (fun _ _ _ _ _ _ h => h)))))))
set_option maxRecDepth 20000 in
theorem bX10_lateAt_49 {X : pz_C} (hX : pz_X X cX10_lateAt 8 RX10) : ∀ lv st g c s, (zo_ll 2 5 (zo_al 1 0 (zo_get 12 18 (zo_il 2 7 (zo_lald (zo_ladd (zo_goto 64 (pz_Z X 8)))))))) 49 lv st g c s → pz_Z X 8 49 lv st g c s := (zs_lload hX dX10_lateAt_49 (zs_aload_n hX dX10_lateAt_51 rfl (zs_get hX (C := RX10) (T := TX10) (N := 37) rfl in_X10 (by decide) mw_d5614c62 dX10_lateAt_52 (zs_iload hX dX10_lateAt_55 (zs_lald hX dX10_lateAt_57 (zs_ladd hX dX10_lateAt_58 (zs_goto hX dX10_lateAt_59 (by decide) (fun _ _ _ _ _ _ h => h))))))))
set_option maxRecDepth 20000 in
theorem bX10_lateAt_62 {X : pz_C} (hX : pz_X X cX10_lateAt 8 RX10) : ∀ lv st g c s, (zo_ll 2 5 (pz_Z X 8)) 62 lv st g c s → pz_Z X 8 62 lv st g c s := (zs_lload hX dX10_lateAt_62 (fun _ _ _ _ _ h => h))
set_option maxRecDepth 20000 in
theorem bX10_lateAt_64 {X : pz_C} (hX : pz_X X cX10_lateAt 8 RX10) : ∀ lv st g c s, (zo_lst 2 5 (zo_inc 7 (1) (zo_goto 6 (pz_Z X 8)))) 64 lv st g c s → pz_Z X 8 64 lv st g c s := (zs_lstore hX dX10_lateAt_64 (by decide) (zs_iinc hX dX10_lateAt_66 (by decide) (by decide) (zs_goto hX dX10_lateAt_69 (by decide) (fun _ _ _ _ _ _ h => h))))
set_option maxRecDepth 20000 in
theorem bX10_lateAt_72 {X : pz_C} {rm : Room} {E : Option pz_V → pz_H → Prop} (hX : pz_X X cX10_lateAt 8 RX10) (hR : pz_Rt X cX10_lateAt 8 (some .long) rm E) : ∀ lv st g c s, (zo_ll 2 5 (zo_rl rm E)) 72 lv st g c s → pz_Z X 8 72 lv st g c s := (zs_lload hX dX10_lateAt_72 (zs_rl hR dX10_lateAt_74))
/-- what the first k words make a stop late on a day -/
def ml_k (Ai : Nat → Nat → Int32) (Aj : Nat → Nat → Int64) (l s : Int32) (d : Int64) : Nat → Int64
  | 0 => 0
  | k + 1 => if Ai 16 k = l ∧ Aj 19 k = d ∧ Ai 17 k ≤ s then ml_k Ai Aj l s d k + Aj 18 k else ml_k Ai Aj l s d k
def rm_X10_lateAt : Room := { frames := 0, cells := 0, slots := 0, locals := 0 }
abbrev gt_X10_lateAt : Type := (Int32 × Int32 × Int64 × Nat) × mo_T
def pr_X10_lateAt : gt_X10_lateAt → List pz_V → pz_H → Prop := fun ((l, s, d, nl), (mo, M, I, Ai, Aj)) av g => av = [.inr (.inr (some mo)), .inl l, .inl s, .inr (.inl d)] ∧ I 15 = nI nl ∧ nl ≤ 100 ∧ moS g mo M I Ai Aj
def po_X10_lateAt : gt_X10_lateAt → List pz_V → pz_H → Option pz_V → pz_H → Prop := fun ((l, s, d, nl), (_, _, _, Ai, Aj)) _ g v g' => g' = g ∧ v = some (.inr (.inl (ml_k Ai Aj l s d nl)))
set_option maxRecDepth 20000 in
set_option maxHeartbeats 4000000 in
theorem ct_X10_lateAt {G : pz_Gx} (hOk : pz_OK G) (gh : gt_X10_lateAt) : pz_M G yX10_lateAt cX10_lateAt 8 (some .long) rm_X10_lateAt (pr_X10_lateAt gh) (po_X10_lateAt gh) := by
  obtain ⟨⟨l, s, d, nl⟩, mo, M, I, Ai, Aj⟩ := gh
  refine pz_ofZ (by decide) hOk.1 (Or.inr (Or.inr (Or.inr (Or.inl rfl)))) ?_ ?_
  · rintro av g ⟨rfl, -⟩
    exact Nat.le_of_ble_eq_true rfl
  · rintro X hX hGX hrm - av g ⟨rfl, hne, hne100, h1, hi, hz, hj⟩ hR
    have h16 : g (M 16) = some ([101, 16], ar_i 100 (Ai 16)) := hi 16 (by decide)
    have h17 : g (M 17) = some ([101, 17], ar_i 100 (Ai 17)) := hi 17 (by decide)
    have h18 : g (M 18) = some ([101, 18], ar_j 100 (Aj 18)) := hj 18 (by decide)
    have h19 : g (M 19) = some ([101, 19], ar_j 100 (Aj 19)) := hj 19 (by decide)
    have loop : ∀ (m k : Nat), k + m = nl → pz_Z X 8 6 [(7, .inl (nI k)), (5, .inr (.inl (ml_k Ai Aj l s d k))), (0, .inr (.inr (some mo))), (1, .inl l), (2, .inl s), (3, .inr (.inl d))] [] g 0 0 := by
      intro m
      induction m with
      | zero =>
        intro k hk
        obtain rfl : k = nl := by omega
        refine bX10_lateAt_6 hX _ _ _ _ _ ⟨_, _, _, h1, rfl, fun _ => ?_, fun q2 => absurd (by rw [hne]; exact Int32.le_refl _) q2⟩
        exact bX10_lateAt_72 hX hR _ _ _ _ _ ⟨Nat.le_refl _, Nat.le_refl _, rfl, rfl⟩
      | succ m ih =>
        intro k hk
        have hkc : (nI k).toNatClampNeg = k := ni_cl (by omega)
        have hki : vp_in (nI k) 100 := ni_in (by omega) (by omega)
        have step : ∀ x : Int64, x = ml_k Ai Aj l s d (k + 1) → ∀ lv : pz_L, pz_all lv [(7, .inl (nI k)), (0, .inr (.inr (some mo))), (1, .inl l), (2, .inl s), (3, .inr (.inl d))] → pz_Z X 8 64 lv [.inr (.inl x)] g 0 0 := by
          intro x hx lv hlv
          subst hx
          refine pz_lsub hlv ?_
          refine bX10_lateAt_64 hX _ _ _ _ _ ?_
          refine pz_lsub (lv' := [(7, .inl (nI (k + 1))), (5, .inr (.inl (ml_k Ai Aj l s d (k + 1)))), (0, .inr (.inr (some mo))), (1, .inl l), (2, .inl s), (3, .inr (.inl d))]) ⟨ni_inc, rfl, rfl, rfl, rfl, rfl, trivial⟩ ?_
          exact ih (k + 1) (by omega)
        have no : ¬ (Ai 16 k = l ∧ Aj 19 k = d ∧ Ai 17 k ≤ s) → pz_Z X 8 62 [(7, .inl (nI k)), (5, .inr (.inl (ml_k Ai Aj l s d k))), (0, .inr (.inr (some mo))), (1, .inl l), (2, .inl s), (3, .inr (.inl d))] [] g 0 0 := by
          intro hno
          refine bX10_lateAt_62 hX _ _ _ _ _ ?_
          exact step _ (by show _ = if _ then _ else _; rw [if_neg hno]) _ ⟨rfl, rfl, rfl, rfl, rfl, trivial⟩
        refine bX10_lateAt_6 hX _ _ _ _ _ ⟨_, _, _, h1, rfl, fun q2 => ?_, fun _ => ?_⟩
        · rw [hne] at q2
          exact absurd ((ni_le (by omega) (by omega)).mp q2) (by omega)
        refine bX10_lateAt_15 hX _ _ _ _ _ ⟨_, _, _, h1, rfl, _, _, _, h16, hki, ?_⟩
        rw [hkc]
        refine ⟨fun q => no (fun z => q z.1), fun q => ?_⟩
        refine bX10_lateAt_26 hX _ _ _ _ _ ⟨_, _, _, h1, rfl, _, _, _, h19, hki, ?_⟩
        rw [hkc]
        refine ⟨fun q2 => no (fun z => q2 ((lc_eq _ _).mpr z.2.1)), fun q2 => ?_⟩
        refine bX10_lateAt_38 hX _ _ _ _ _ ⟨_, _, _, h1, rfl, _, _, _, h17, hki, ?_⟩
        rw [hkc]
        refine ⟨fun q3 => no (fun z => absurd z.2.2 (Int32.not_le.mpr q3)), fun q3 => ?_⟩
        refine bX10_lateAt_49 hX _ _ _ _ _ ⟨_, _, _, h1, rfl, _, _, _, h18, hki, ?_⟩
        rw [hkc]
        refine step _ ?_ _ ⟨rfl, rfl, rfl, rfl, rfl, trivial⟩
        show _ = if _ then _ else _
        rw [if_pos ⟨q, (lc_eq _ _).mp q2, Int32.not_lt.mp q3⟩]
    refine bX10_lateAt_0 hX _ _ _ _ _ ?_
    refine pz_lsub (lv' := [(7, .inl (nI 0)), (5, .inr (.inl 0)), (0, .inr (.inr (some mo))), (1, .inl l), (2, .inl s), (3, .inr (.inl d))]) ⟨rfl, rfl, rfl, rfl, rfl, rfl, trivial⟩ ?_
    exact loop nl 0 (by omega)
set_option maxRecDepth 20000 in
theorem bX10_minutesAt_0 {X : pz_C} (hX : pz_X X cX10_minutesAt 9 RX10) : ∀ lv st g c s, (zo_ic 1 (-1) (zo_is 2 4 (zo_ic 1 (0) (zo_is 2 5 (pz_Z X 9))))) 0 lv st g c s → pz_Z X 9 0 lv st g c s := (zs_iconst hX dX10_minutesAt_0 (by decide) (zs_istore hX dX10_minutesAt_1 (by decide) (zs_iconst hX dX10_minutesAt_3 (by decide) (zs_istore hX dX10_minutesAt_4 (by decide) (fun _ _ _ _ _ h => h)))))
set_option maxRecDepth 20000 in
theorem bX10_minutesAt_6 {X : pz_C} (hX : pz_X X cX10_minutesAt 9 RX10) : ∀ lv st g c s, (zo_il 2 5 (zo_al 1 0 (zo_get 12 11 (zo_ic_ge 165 (pz_Z X 9))))) 6 lv st g c s → pz_Z X 9 6 lv st g c s := (zs_iload hX dX10_minutesAt_6 (zs_aload_n hX dX10_minutesAt_8 rfl (zs_get hX (C := RX10) (T := TX10) (N := 37) rfl in_X10 (by decide) mw_d2d27b6e dX10_minutesAt_9 (zs_ic_ge hX dX10_minutesAt_12 (by decide) (fun _ _ _ _ _ _ h => h)))))
set_option maxRecDepth 20000 in
theorem bX10_minutesAt_15 {X : pz_C} (hX : pz_X X cX10_minutesAt 9 RX10) : ∀ lv st g c s, (zo_al 1 0 (zo_get 12 12 (zo_il 2 5 (zo_iald (zo_il 1 1 (zo_ic_ne 159 (pz_Z X 9))))))) 15 lv st g c s → pz_Z X 9 15 lv st g c s := (zs_aload_n hX dX10_minutesAt_15 rfl (zs_get hX (C := RX10) (T := TX10) (N := 37) rfl in_X10 (by decide) mw_9e763348 dX10_minutesAt_16 (zs_iload hX dX10_minutesAt_19 (zs_iald hX dX10_minutesAt_21 (zs_iload_n hX dX10_minutesAt_22 rfl (zs_ic_ne hX dX10_minutesAt_23 (by decide) (fun _ _ _ _ _ _ h => h)))))))
set_option maxRecDepth 20000 in
theorem bX10_minutesAt_26 {X : pz_C} (hX : pz_X X cX10_minutesAt 9 RX10) : ∀ lv st g c s, (zo_al 1 0 (zo_get 12 13 (zo_il 2 5 (zo_lald (zo_lc 3 (86400) (zo_ll 1 2 (zo_lmul (zo_lcmp (zo_if_gt 46 (pz_Z X 9)))))))))) 26 lv st g c s → pz_Z X 9 26 lv st g c s := (zs_aload_n hX dX10_minutesAt_26 rfl (zs_get hX (C := RX10) (T := TX10) (N := 37) rfl in_X10 (by decide) mw_e59d7dce dX10_minutesAt_27 (zs_iload hX dX10_minutesAt_30 (zs_lald hX dX10_minutesAt_32 (zs_ldc2 hX dX10_minutesAt_33 mw_e93d3cab (zs_lload_n hX dX10_minutesAt_36 rfl (zs_lmul hX dX10_minutesAt_37 (zs_lcmp hX dX10_minutesAt_38 (zs_if_gt hX dX10_minutesAt_39 (by decide) (fun _ _ _ _ _ _ h => h))))))))))
set_option maxRecDepth 20000 in
theorem bX10_minutesAt_42 {X : pz_C} (hX : pz_X X cX10_minutesAt 9 RX10) : ∀ lv st g c s, (zo_ic 1 (1) (zo_goto 47 (pz_Z X 9))) 42 lv st g c s → pz_Z X 9 42 lv st g c s := (zs_iconst hX dX10_minutesAt_42 (by decide) (zs_goto hX dX10_minutesAt_43 (by decide) (fun _ _ _ _ _ _ h => h)))
set_option maxRecDepth 20000 in
theorem bX10_minutesAt_46 {X : pz_C} (hX : pz_X X cX10_minutesAt 9 RX10) : ∀ lv st g c s, (zo_ic 1 (0) (pz_Z X 9)) 46 lv st g c s → pz_Z X 9 46 lv st g c s := (zs_iconst hX dX10_minutesAt_46 (by decide) (fun _ _ _ _ _ h => h))
set_option maxRecDepth 20000 in
theorem bX10_minutesAt_47 {X : pz_C} (hX : pz_X X cX10_minutesAt 9 RX10) : ∀ lv st g c s, (zo_is 2 6 (zo_il 2 4 (zo_if_lt 74 (pz_Z X 9)))) 47 lv st g c s → pz_Z X 9 47 lv st g c s := (zs_istore hX dX10_minutesAt_47 (by decide) (zs_iload hX dX10_minutesAt_49 (zs_if_lt hX dX10_minutesAt_51 (by decide) (fun _ _ _ _ _ _ h => h))))
set_option maxRecDepth 20000 in
theorem bX10_minutesAt_54 {X : pz_C} (hX : pz_X X cX10_minutesAt 9 RX10) : ∀ lv st g c s, (zo_al 1 0 (zo_get 12 13 (zo_il 2 4 (zo_lald (zo_lc 3 (86400) (zo_ll 1 2 (zo_lmul (zo_lcmp (zo_if_gt 74 (pz_Z X 9)))))))))) 54 lv st g c s → pz_Z X 9 54 lv st g c s := (zs_aload_n hX dX10_minutesAt_54 rfl (zs_get hX (C := RX10) (T := TX10) (N := 37) rfl in_X10 (by decide) mw_e59d7dce dX10_minutesAt_55 (zs_iload hX dX10_minutesAt_58 (zs_lald hX dX10_minutesAt_60 (zs_ldc2 hX dX10_minutesAt_61 mw_e93d3cab (zs_lload_n hX dX10_minutesAt_64 rfl (zs_lmul hX dX10_minutesAt_65 (zs_lcmp hX dX10_minutesAt_66 (zs_if_gt hX dX10_minutesAt_67 (by decide) (fun _ _ _ _ _ _ h => h))))))))))
set_option maxRecDepth 20000 in
theorem bX10_minutesAt_70 {X : pz_C} (hX : pz_X X cX10_minutesAt 9 RX10) : ∀ lv st g c s, (zo_ic 1 (1) (zo_goto 75 (pz_Z X 9))) 70 lv st g c s → pz_Z X 9 70 lv st g c s := (zs_iconst hX dX10_minutesAt_70 (by decide) (zs_goto hX dX10_minutesAt_71 (by decide) (fun _ _ _ _ _ _ h => h)))
set_option maxRecDepth 20000 in
theorem bX10_minutesAt_74 {X : pz_C} (hX : pz_X X cX10_minutesAt 9 RX10) : ∀ lv st g c s, (zo_ic 1 (0) (pz_Z X 9)) 74 lv st g c s → pz_Z X 9 74 lv st g c s := (zs_iconst hX dX10_minutesAt_74 (by decide) (fun _ _ _ _ _ h => h))
set_option maxRecDepth 20000 in
theorem bX10_minutesAt_75 {X : pz_C} (hX : pz_X X cX10_minutesAt 9 RX10) : ∀ lv st g c s, (zo_is 2 7 (zo_il 2 4 (zo_if_lt 138 (pz_Z X 9)))) 75 lv st g c s → pz_Z X 9 75 lv st g c s := (zs_istore hX dX10_minutesAt_75 (by decide) (zs_iload hX dX10_minutesAt_77 (zs_if_lt hX dX10_minutesAt_79 (by decide) (fun _ _ _ _ _ _ h => h))))
set_option maxRecDepth 20000 in
theorem bX10_minutesAt_82 {X : pz_C} (hX : pz_X X cX10_minutesAt 9 RX10) : ∀ lv st g c s, (zo_il 2 6 (zo_if_eq 110 (pz_Z X 9))) 82 lv st g c s → pz_Z X 9 82 lv st g c s := (zs_iload hX dX10_minutesAt_82 (zs_if_eq hX dX10_minutesAt_84 (by decide) (fun _ _ _ _ _ _ h => h)))
set_option maxRecDepth 20000 in
theorem bX10_minutesAt_87 {X : pz_C} (hX : pz_X X cX10_minutesAt 9 RX10) : ∀ lv st g c s, (zo_il 2 7 (zo_if_eq 138 (pz_Z X 9))) 87 lv st g c s → pz_Z X 9 87 lv st g c s := (zs_iload hX dX10_minutesAt_87 (zs_if_eq hX dX10_minutesAt_89 (by decide) (fun _ _ _ _ _ _ h => h)))
set_option maxRecDepth 20000 in
theorem bX10_minutesAt_92 {X : pz_C} (hX : pz_X X cX10_minutesAt 9 RX10) : ∀ lv st g c s, (zo_al 1 0 (zo_get 12 13 (zo_il 2 5 (zo_lald (zo_al 1 0 (zo_get 12 13 (zo_il 2 4 (zo_lald (zo_lcmp (zo_if_gt 138 (pz_Z X 9))))))))))) 92 lv st g c s → pz_Z X 9 92 lv st g c s := (zs_aload_n hX dX10_minutesAt_92 rfl (zs_get hX (C := RX10) (T := TX10) (N := 37) rfl in_X10 (by decide) mw_e59d7dce dX10_minutesAt_93 (zs_iload hX dX10_minutesAt_96 (zs_lald hX dX10_minutesAt_98 (zs_aload_n hX dX10_minutesAt_99 rfl (zs_get hX (C := RX10) (T := TX10) (N := 37) rfl in_X10 (by decide) mw_e59d7dce dX10_minutesAt_100 (zs_iload hX dX10_minutesAt_103 (zs_lald hX dX10_minutesAt_105 (zs_lcmp hX dX10_minutesAt_106 (zs_if_gt hX dX10_minutesAt_107 (by decide) (fun _ _ _ _ _ _ h => h)))))))))))
set_option maxRecDepth 20000 in
theorem bX10_minutesAt_110 {X : pz_C} (hX : pz_X X cX10_minutesAt 9 RX10) : ∀ lv st g c s, (zo_il 2 6 (zo_if_ne 142 (pz_Z X 9))) 110 lv st g c s → pz_Z X 9 110 lv st g c s := (zs_iload hX dX10_minutesAt_110 (zs_if_ne hX dX10_minutesAt_112 (by decide) (fun _ _ _ _ _ _ h => h)))
set_option maxRecDepth 20000 in
theorem bX10_minutesAt_115 {X : pz_C} (hX : pz_X X cX10_minutesAt 9 RX10) : ∀ lv st g c s, (zo_il 2 7 (zo_if_ne 142 (pz_Z X 9))) 115 lv st g c s → pz_Z X 9 115 lv st g c s := (zs_iload hX dX10_minutesAt_115 (zs_if_ne hX dX10_minutesAt_117 (by decide) (fun _ _ _ _ _ _ h => h)))
set_option maxRecDepth 20000 in
theorem bX10_minutesAt_120 {X : pz_C} (hX : pz_X X cX10_minutesAt 9 RX10) : ∀ lv st g c s, (zo_al 1 0 (zo_get 12 13 (zo_il 2 5 (zo_lald (zo_al 1 0 (zo_get 12 13 (zo_il 2 4 (zo_lald (zo_lcmp (zo_if_ge 142 (pz_Z X 9))))))))))) 120 lv st g c s → pz_Z X 9 120 lv st g c s := (zs_aload_n hX dX10_minutesAt_120 rfl (zs_get hX (C := RX10) (T := TX10) (N := 37) rfl in_X10 (by decide) mw_e59d7dce dX10_minutesAt_121 (zs_iload hX dX10_minutesAt_124 (zs_lald hX dX10_minutesAt_126 (zs_aload_n hX dX10_minutesAt_127 rfl (zs_get hX (C := RX10) (T := TX10) (N := 37) rfl in_X10 (by decide) mw_e59d7dce dX10_minutesAt_128 (zs_iload hX dX10_minutesAt_131 (zs_lald hX dX10_minutesAt_133 (zs_lcmp hX dX10_minutesAt_134 (zs_if_ge hX dX10_minutesAt_135 (by decide) (fun _ _ _ _ _ _ h => h)))))))))))
set_option maxRecDepth 20000 in
theorem bX10_minutesAt_138 {X : pz_C} (hX : pz_X X cX10_minutesAt 9 RX10) : ∀ lv st g c s, (zo_ic 1 (1) (zo_goto 143 (pz_Z X 9))) 138 lv st g c s → pz_Z X 9 138 lv st g c s := (zs_iconst hX dX10_minutesAt_138 (by decide) (zs_goto hX dX10_minutesAt_139 (by decide) (fun _ _ _ _ _ _ h => h)))
set_option maxRecDepth 20000 in
theorem bX10_minutesAt_142 {X : pz_C} (hX : pz_X X cX10_minutesAt 9 RX10) : ∀ lv st g c s, (zo_ic 1 (0) (pz_Z X 9)) 142 lv st g c s → pz_Z X 9 142 lv st g c s := (zs_iconst hX dX10_minutesAt_142 (by decide) (fun _ _ _ _ _ h => h))
set_option maxRecDepth 20000 in
theorem bX10_minutesAt_143 {X : pz_C} (hX : pz_X X cX10_minutesAt 9 RX10) : ∀ lv st g c s, (zo_is 2 8 (zo_il 2 8 (zo_if_eq 155 (pz_Z X 9)))) 143 lv st g c s → pz_Z X 9 143 lv st g c s := (zs_istore hX dX10_minutesAt_143 (by decide) (zs_iload hX dX10_minutesAt_145 (zs_if_eq hX dX10_minutesAt_147 (by decide) (fun _ _ _ _ _ _ h => h))))
set_option maxRecDepth 20000 in
theorem bX10_minutesAt_150 {X : pz_C} (hX : pz_X X cX10_minutesAt 9 RX10) : ∀ lv st g c s, (zo_il 2 5 (zo_goto 157 (pz_Z X 9))) 150 lv st g c s → pz_Z X 9 150 lv st g c s := (zs_iload hX dX10_minutesAt_150 (zs_goto hX dX10_minutesAt_152 (by decide) (fun _ _ _ _ _ _ h => h)))
set_option maxRecDepth 20000 in
theorem bX10_minutesAt_155 {X : pz_C} (hX : pz_X X cX10_minutesAt 9 RX10) : ∀ lv st g c s, (zo_il 2 4 (pz_Z X 9)) 155 lv st g c s → pz_Z X 9 155 lv st g c s := (zs_iload hX dX10_minutesAt_155 (fun _ _ _ _ _ h => h))
set_option maxRecDepth 20000 in
theorem bX10_minutesAt_157 {X : pz_C} (hX : pz_X X cX10_minutesAt 9 RX10) : ∀ lv st g c s, (zo_is 2 4 (pz_Z X 9)) 157 lv st g c s → pz_Z X 9 157 lv st g c s := (zs_istore hX dX10_minutesAt_157 (by decide) (fun _ _ _ _ _ h => h))
set_option maxRecDepth 20000 in
theorem bX10_minutesAt_159 {X : pz_C} (hX : pz_X X cX10_minutesAt 9 RX10) : ∀ lv st g c s, (zo_inc 5 (1) (zo_goto 6 (pz_Z X 9))) 159 lv st g c s → pz_Z X 9 159 lv st g c s := (zs_iinc hX dX10_minutesAt_159 (by decide) (by decide) (zs_goto hX dX10_minutesAt_162 (by decide) (fun _ _ _ _ _ _ h => h)))
set_option maxRecDepth 20000 in
theorem bX10_minutesAt_165 {X : pz_C} (hX : pz_X X cX10_minutesAt 9 RX10) : ∀ lv st g c s, (zo_il 2 4 (zo_if_ge 174 (pz_Z X 9))) 165 lv st g c s → pz_Z X 9 165 lv st g c s := (zs_iload hX dX10_minutesAt_165 (zs_if_ge hX dX10_minutesAt_167 (by decide) (fun _ _ _ _ _ _ h => h)))
set_option maxRecDepth 20000 in
theorem bX10_minutesAt_170 {X : pz_C} (hX : pz_X X cX10_minutesAt 9 RX10) : ∀ lv st g c s, (zo_ic 1 (0) (zo_goto 181 (pz_Z X 9))) 170 lv st g c s → pz_Z X 9 170 lv st g c s := (zs_iconst hX dX10_minutesAt_170 (by decide) (zs_goto hX dX10_minutesAt_171 (by decide) (fun _ _ _ _ _ _ h => h)))
set_option maxRecDepth 20000 in
theorem bX10_minutesAt_174 {X : pz_C} (hX : pz_X X cX10_minutesAt 9 RX10) : ∀ lv st g c s, (zo_al 1 0 (zo_get 12 14 (zo_il 2 4 (zo_iald (pz_Z X 9))))) 174 lv st g c s → pz_Z X 9 174 lv st g c s := (zs_aload_n hX dX10_minutesAt_174 rfl (zs_get hX (C := RX10) (T := TX10) (N := 37) rfl in_X10 (by decide) mw_9d3a66d3 dX10_minutesAt_175 (zs_iload hX dX10_minutesAt_178 (zs_iald hX dX10_minutesAt_180 (fun _ _ _ _ _ h => h)))))
set_option maxRecDepth 20000 in
theorem bX10_minutesAt_181 {X : pz_C} {rm : Room} {E : Option pz_V → pz_H → Prop} (hX : pz_X X cX10_minutesAt 9 RX10) (hR : pz_Rt X cX10_minutesAt 9 (some .int) rm E) : ∀ lv st g c s, (zo_ri rm E) 181 lv st g c s → pz_Z X 9 181 lv st g c s := (zs_ri hR dX10_minutesAt_181)
/-- the zone row that holds, among the first k -/
def mm_b (F : Nat → Int64) (D : Int64) (k : Nat) : Option Nat → Bool
  | none => true
  | some j => (decide (F k ≤ D) && (!decide (F j ≤ D) || decide (F j < F k))) || (!decide (F k ≤ D) && (!decide (F j ≤ D) && decide (F k < F j)))
def mm_k (Z : Nat → Int32) (F : Nat → Int64) (p : Int32) (D : Int64) : Nat → Option Nat
  | 0 => none
  | k + 1 => if Z k = p then (if mm_b F D k (mm_k Z F p D k) = true then some k else mm_k Z F p D k) else mm_k Z F p D k
theorem mm_lt {Z : Nat → Int32} {F : Nat → Int64} {p : Int32} {D : Int64} : ∀ {k j : Nat}, mm_k Z F p D k = some j → j < k
  | 0, _, h => by cases h
  | k + 1, j, h => by
    unfold mm_k at h
    split at h
    · split at h
      · cases h; omega
      · have := mm_lt h; omega
    · have := mm_lt h; omega
def mm_v (V : Nat → Int32) : Option Nat → Int32
  | none => 0
  | some j => V j
def rm_X10_minutesAt : Room := { frames := 0, cells := 0, slots := 0, locals := 0 }
abbrev gt_X10_minutesAt : Type := (Int32 × Int64 × Nat) × mo_T
def pr_X10_minutesAt : gt_X10_minutesAt → List pz_V → pz_H → Prop := fun ((p, d, nz), (mo, M, I, Ai, Aj)) av g => av = [.inr (.inr (some mo)), .inl p, .inr (.inl d)] ∧ I 11 = nI nz ∧ nz ≤ 100 ∧ moS g mo M I Ai Aj
def po_X10_minutesAt : gt_X10_minutesAt → List pz_V → pz_H → Option pz_V → pz_H → Prop := fun ((p, d, nz), (_, _, _, Ai, Aj)) _ g v g' => g' = g ∧ v = some (.inl (mm_v (Ai 14) (mm_k (Ai 12) (Aj 13) p (86400 * d) nz)))
set_option maxRecDepth 20000 in
set_option maxHeartbeats 4000000 in
theorem ct_X10_minutesAt {G : pz_Gx} (hOk : pz_OK G) (gh : gt_X10_minutesAt) : pz_M G yX10_minutesAt cX10_minutesAt 9 (some .int) rm_X10_minutesAt (pr_X10_minutesAt gh) (po_X10_minutesAt gh) := by
  obtain ⟨⟨p, d, nz⟩, mo, M, I, Ai, Aj⟩ := gh
  refine pz_ofZ (by decide) hOk.1 (Or.inr (Or.inl rfl)) ?_ ?_
  · rintro av g ⟨rfl, -⟩
    exact Nat.le_of_ble_eq_true rfl
  · rintro X hX hGX hrm - av g ⟨rfl, hne, hne100, h1, hi, hz, hj⟩ hR
    have h12 : g (M 12) = some ([101, 12], ar_i 100 (Ai 12)) := hi 12 (by decide)
    have h14 : g (M 14) = some ([101, 14], ar_i 100 (Ai 14)) := hi 14 (by decide)
    have h13 : g (M 13) = some ([101, 13], ar_j 100 (Aj 13)) := hj 13 (by decide)
    have neg : ∀ b : Option Nat, (∀ j, b = some j → j < 100) → (fs_i b < 0 ↔ b = none) := by
      intro b hb
      cases b with
      | none => exact ⟨fun _ => rfl, fun _ => by decide⟩
      | some j => exact ⟨fun q => absurd q (nI_pos (by have := hb j rfl; omega)), fun q => by cases q⟩
    have loop : ∀ (m k : Nat), k + m = nz → pz_Z X 9 6 [(5, .inl (nI k)), (4, .inl (fs_i (mm_k (Ai 12) (Aj 13) p (86400 * d) k))), (0, .inr (.inr (some mo))), (1, .inl p), (2, .inr (.inl d))] [] g 0 0 := by
      intro m
      induction m with
      | zero =>
        intro k hk
        obtain rfl : k = nz := by omega
        refine bX10_minutesAt_6 hX _ _ _ _ _ ⟨_, _, _, h1, rfl, fun _ => ?_, fun q2 => absurd (by rw [hne]; exact Int32.le_refl _) q2⟩
        cases hb : mm_k (Ai 12) (Aj 13) p (86400 * d) k with
        | none =>
          refine bX10_minutesAt_165 hX _ _ _ _ _ ⟨fun q => absurd q (by decide), fun _ => ?_⟩
          refine bX10_minutesAt_170 hX _ _ _ _ _ ?_
          exact bX10_minutesAt_181 hX hR _ _ _ _ _ ⟨Nat.le_refl _, Nat.le_refl _, rfl, by rw [hb]; rfl⟩
        | some j =>
          have hjk := mm_lt hb
          refine bX10_minutesAt_165 hX _ _ _ _ _ ⟨fun _ => ?_, fun q => absurd (nI_pos' (by omega)) q⟩
          refine bX10_minutesAt_174 hX _ _ _ _ _ ⟨_, _, _, h1, rfl, _, _, _, h14, ni_in (j := j) (by omega) (by omega), ?_⟩
          refine bX10_minutesAt_181 hX hR _ _ _ _ _ ⟨Nat.le_refl _, Nat.le_refl _, rfl, ?_⟩
          rw [hb, show (fs_i (some j)).toNatClampNeg = j from ni_cl (by omega)]
          rfl
      | succ m ih =>
        intro k hk
        have hkc : (nI k).toNatClampNeg = k := ni_cl (by omega)
        have hki : vp_in (nI k) 100 := ni_in (by omega) (by omega)
        have hstep : mm_k (Ai 12) (Aj 13) p (86400 * d) (k + 1) = if Ai 12 k = p then (if mm_b (Aj 13) (86400 * d) k (mm_k (Ai 12) (Aj 13) p (86400 * d) k) = true then some k else mm_k (Ai 12) (Aj 13) p (86400 * d) k) else mm_k (Ai 12) (Aj 13) p (86400 * d) k := rfl
        have hlt : ∀ j, mm_k (Ai 12) (Aj 13) p (86400 * d) k = some j → j < 100 := fun j h => by have := mm_lt h; omega
        have ihk := ih (k + 1) (by omega)
        generalize mm_k (Ai 12) (Aj 13) p (86400 * d) (k + 1) = nb at hstep ihk
        generalize mm_k (Ai 12) (Aj 13) p (86400 * d) k = b at hstep hlt ⊢
        have j159 : ∀ lv : pz_L, pz_all lv [(5, .inl (nI k)), (4, .inl (fs_i nb)), (0, .inr (.inr (some mo))), (1, .inl p), (2, .inr (.inl d))] → pz_Z X 9 159 lv [] g 0 0 := by
          intro lv hlv
          refine pz_lsub hlv ?_
          refine bX10_minutesAt_159 hX _ _ _ _ _ ?_
          refine pz_lsub (lv' := [(5, .inl (nI (k + 1))), (4, .inl (fs_i nb)), (0, .inr (.inr (some mo))), (1, .inl p), (2, .inr (.inl d))]) ⟨ni_inc, rfl, rfl, rfl, rfl, trivial⟩ ?_
          exact ihk
        refine bX10_minutesAt_6 hX _ _ _ _ _ ⟨_, _, _, h1, rfl, fun q2 => ?_, fun _ => ?_⟩
        · rw [hne] at q2
          exact absurd ((ni_le (by omega) (by omega)).mp q2) (by omega)
        refine bX10_minutesAt_15 hX _ _ _ _ _ ⟨_, _, _, h1, rfl, _, _, _, h12, hki, ?_⟩
        rw [hkc]
        refine ⟨fun q => ?_, fun q => ?_⟩
        · rw [if_neg q] at hstep
          subst hstep
          exact j159 _ ⟨rfl, rfl, rfl, rfl, rfl, trivial⟩
        rw [if_pos q] at hstep
        have j143 : ∀ (bt : Bool) (lv : pz_L), pz_all lv [(5, .inl (nI k)), (4, .inl (fs_i b)), (0, .inr (.inr (some mo))), (1, .inl p), (2, .inr (.inl d))] → mm_b (Aj 13) (86400 * d) k b = bt → pz_Z X 9 143 lv [.inl (b01 bt)] g 0 0 := by
          intro bt lv hlv hbt
          refine pz_lsub hlv ?_
          refine bX10_minutesAt_143 hX _ _ _ _ _ ⟨fun q2 => ?_, fun q2 => ?_⟩
          · rw [b01_z] at q2
            rw [hbt, q2, if_neg (by decide)] at hstep
            subst hstep
            refine bX10_minutesAt_155 hX _ _ _ _ _ ?_
            refine bX10_minutesAt_157 hX _ _ _ _ _ ?_
            exact j159 _ ⟨rfl, rfl, rfl, rfl, rfl, trivial⟩
          · rw [b01_nz] at q2
            rw [hbt, if_pos q2] at hstep
            subst hstep
            refine bX10_minutesAt_150 hX _ _ _ _ _ ?_
            refine bX10_minutesAt_157 hX _ _ _ _ _ ?_
            exact j159 _ ⟨rfl, rfl, rfl, rfl, rfl, trivial⟩
        have yes : mm_b (Aj 13) (86400 * d) k b = true → ∀ lv : pz_L, pz_all lv [(5, .inl (nI k)), (4, .inl (fs_i b)), (0, .inr (.inr (some mo))), (1, .inl p), (2, .inr (.inl d))] → pz_Z X 9 138 lv [] g 0 0 := by
          intro hb lv hlv
          refine bX10_minutesAt_138 hX _ _ _ _ _ ?_
          exact j143 true lv hlv hb
        have noo : mm_b (Aj 13) (86400 * d) k b = false → ∀ lv : pz_L, pz_all lv [(5, .inl (nI k)), (4, .inl (fs_i b)), (0, .inr (.inr (some mo))), (1, .inl p), (2, .inr (.inl d))] → pz_Z X 9 142 lv [] g 0 0 := by
          intro hb lv hlv
          refine bX10_minutesAt_142 hX _ _ _ _ _ ?_
          exact j143 false lv hlv hb
        have j75 : ∀ (th : Bool) (lv : pz_L), (∀ j, b = some j → th = decide (Aj 13 j ≤ 86400 * d)) → pz_all lv [(6, .inl (b01 (decide (Aj 13 k ≤ 86400 * d)))), (5, .inl (nI k)), (4, .inl (fs_i b)), (0, .inr (.inr (some mo))), (1, .inl p), (2, .inr (.inl d))] → pz_Z X 9 75 lv [.inl (b01 th)] g 0 0 := by
          intro th lv hth hlv
          refine pz_lsub hlv ?_
          refine bX10_minutesAt_75 hX _ _ _ _ _ ⟨fun q2 => ?_, fun q2 => ?_⟩
          · have hb := (neg b hlt).mp q2
            subst hb
            exact yes rfl _ ⟨rfl, rfl, rfl, rfl, rfl, trivial⟩
          obtain ⟨j, rfl⟩ : ∃ j, b = some j := by
            cases b with
            | none => exact absurd (by decide) q2
            | some j => exact ⟨j, rfl⟩
          have hj100 := hlt j rfl
          have hth' := hth j rfl
          have hjc : (fs_i (some j)).toNatClampNeg = j := ni_cl (by omega)
          have hji : vp_in (fs_i (some j)) 100 := ni_in (j := j) (by omega) (by omega)
          have p110 : (decide (Aj 13 k ≤ 86400 * d) = false ∨ mm_b (Aj 13) (86400 * d) k (some j) = false) → pz_Z X 9 110 (pz_s 7 (.inl (b01 th)) [(6, .inl (b01 (decide (Aj 13 k ≤ 86400 * d)))), (5, .inl (nI k)), (4, .inl (fs_i (some j))), (0, .inr (.inr (some mo))), (1, .inl p), (2, .inr (.inl d))]) [] g 0 0 := by
            intro hor
            refine bX10_minutesAt_110 hX _ _ _ _ _ ⟨fun q3 => ?_, fun q3 => ?_⟩
            · rw [b01_nz] at q3
              exact noo (hor.resolve_left (by rw [q3]; decide)) _ ⟨rfl, rfl, rfl, rfl, rfl, trivial⟩
            · rw [b01_z] at q3
              refine bX10_minutesAt_115 hX _ _ _ _ _ ⟨fun q4 => ?_, fun q4 => ?_⟩
              · rw [b01_nz] at q4
                refine noo ?_ _ ⟨rfl, rfl, rfl, rfl, rfl, trivial⟩
                unfold mm_b
                dsimp only
                rw [q3, ← hth', q4]
                rfl
              · rw [b01_z] at q4
                refine bX10_minutesAt_120 hX _ _ _ _ _ ⟨_, _, _, h1, rfl, _, _, _, h13, hki, _, _, _, h1, rfl, _, _, _, h13, hji, ?_⟩
                rw [hkc, hjc]
                refine ⟨fun q5 => ?_, fun q5 => ?_⟩
                · refine noo ?_ _ ⟨rfl, rfl, rfl, rfl, rfl, trivial⟩
                  unfold mm_b
                  dsimp only
                  rw [q3, ← hth', q4, decide_eq_false (p := Aj 13 k < Aj 13 j) (Int64.not_lt.mpr ((lc_ge _ _).mp q5))]
                  rfl
                · refine yes ?_ _ ⟨rfl, rfl, rfl, rfl, rfl, trivial⟩
                  unfold mm_b
                  dsimp only
                  rw [q3, ← hth', q4, decide_eq_true (p := Aj 13 k < Aj 13 j) ((lc_lt _ _).mp (Int32.not_le.mp q5))]
                  rfl
          refine bX10_minutesAt_82 hX _ _ _ _ _ ⟨fun q3 => ?_, fun q3 => ?_⟩
          · rw [b01_z] at q3
            exact p110 (Or.inl q3)
          rw [b01_nz] at q3
          refine bX10_minutesAt_87 hX _ _ _ _ _ ⟨fun q4 => ?_, fun q4 => ?_⟩
          · rw [b01_z] at q4
            refine yes ?_ _ ⟨rfl, rfl, rfl, rfl, rfl, trivial⟩
            unfold mm_b
            dsimp only
            rw [q3, ← hth', q4]
            rfl
          · rw [b01_nz] at q4
            refine bX10_minutesAt_92 hX _ _ _ _ _ ⟨_, _, _, h1, rfl, _, _, _, h13, hki, _, _, _, h1, rfl, _, _, _, h13, hji, ?_⟩
            rw [hkc, hjc]
            refine ⟨fun q5 => ?_, fun q5 => ?_⟩
            · refine yes ?_ _ ⟨rfl, rfl, rfl, rfl, rfl, trivial⟩
              unfold mm_b
              dsimp only
              rw [q3, ← hth', q4, decide_eq_true (p := Aj 13 j < Aj 13 k) ((lc_gt _ _).mp q5)]
              rfl
            · refine p110 (Or.inr ?_)
              unfold mm_b
              dsimp only
              rw [q3, ← hth', q4, decide_eq_false (p := Aj 13 j < Aj 13 k) (fun z => q5 ((lc_gt _ _).mpr z))]
              rfl
        have j47 : ∀ lv : pz_L, pz_all lv [(5, .inl (nI k)), (4, .inl (fs_i b)), (0, .inr (.inr (some mo))), (1, .inl p), (2, .inr (.inl d))] → pz_Z X 9 47 lv [.inl (b01 (decide (Aj 13 k ≤ 86400 * d)))] g 0 0 := by
          intro lv hlv
          refine pz_lsub hlv ?_
          refine bX10_minutesAt_47 hX _ _ _ _ _ ⟨fun q2 => ?_, fun q2 => ?_⟩
          · have hb := (neg b hlt).mp q2
            refine bX10_minutesAt_74 hX _ _ _ _ _ ?_
            exact j75 false _ (fun j h => by rw [hb] at h; cases h) ⟨rfl, rfl, rfl, rfl, rfl, rfl, trivial⟩
          obtain ⟨j, rfl⟩ : ∃ j, b = some j := by
            cases b with
            | none => exact absurd (by decide) q2
            | some j => exact ⟨j, rfl⟩
          have hj100 := hlt j rfl
          have hjc : (fs_i (some j)).toNatClampNeg = j := ni_cl (by omega)
          have hji : vp_in (fs_i (some j)) 100 := ni_in (j := j) (by omega) (by omega)
          refine bX10_minutesAt_54 hX _ _ _ _ _ ⟨_, _, _, h1, rfl, _, _, _, h13, hji, ?_⟩
          rw [hjc]
          refine ⟨fun q3 => ?_, fun q3 => ?_⟩
          · refine bX10_minutesAt_74 hX _ _ _ _ _ ?_
            exact j75 false _ (fun j2 h => by cases h; exact (decide_eq_false (Int64.not_le.mpr ((lc_gt _ _).mp q3))).symm) ⟨rfl, rfl, rfl, rfl, rfl, rfl, trivial⟩
          · refine bX10_minutesAt_70 hX _ _ _ _ _ ?_
            exact j75 true _ (fun j2 h => by cases h; exact (decide_eq_true (Int64.not_lt.mp (fun z => q3 ((lc_gt _ _).mpr z)))).symm) ⟨rfl, rfl, rfl, rfl, rfl, rfl, trivial⟩
        refine bX10_minutesAt_26 hX _ _ _ _ _ ⟨_, _, _, h1, rfl, _, _, _, h13, hki, ?_⟩
        rw [hkc]
        refine ⟨fun q2 => ?_, fun q2 => ?_⟩
        · have e0 : decide (Aj 13 k ≤ 86400 * d) = false := decide_eq_false (Int64.not_le.mpr ((lc_gt _ _).mp q2))
          rw [e0] at j47
          refine bX10_minutesAt_46 hX _ _ _ _ _ ?_
          exact j47 _ ⟨rfl, rfl, rfl, rfl, rfl, trivial⟩
        · have e0 : decide (Aj 13 k ≤ 86400 * d) = true := decide_eq_true (Int64.not_lt.mp (fun z => q2 ((lc_gt _ _).mpr z)))
          rw [e0] at j47
          refine bX10_minutesAt_42 hX _ _ _ _ _ ?_
          exact j47 _ ⟨rfl, rfl, rfl, rfl, rfl, trivial⟩
    refine bX10_minutesAt_0 hX _ _ _ _ _ ?_
    refine pz_lsub (lv' := [(5, .inl (nI 0)), (4, .inl (-1)), (0, .inr (.inr (some mo))), (1, .inl p), (2, .inr (.inl d))]) ⟨rfl, rfl, rfl, rfl, rfl, trivial⟩ ?_
    exact loop nz 0 (by omega)
