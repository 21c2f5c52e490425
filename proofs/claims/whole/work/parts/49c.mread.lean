/-! the reference: look, fail, number, blank, readStop -/
def p_lk (n : Nat) (f : Nat → Int32) (a : Nat) : Int32 := if a < n then f a else -1
def p_fl (phi w : Int32) : Int32 := if phi < 0 then w else phi
def iaf (I : Nat → Int32) (a : Nat) (phi : Int32) : Nat → Int32 := upd (upd I 35 (nI a)) 36 phi
theorem iaf_35 {I : Nat → Int32} {a : Nat} {phi : Int32} : iaf I a phi 35 = nI a := by
  unfold iaf
  rw [pk_un (by decide), pk_us]
theorem iaf_36 {I : Nat → Int32} {a : Nat} {phi : Int32} : iaf I a phi 36 = phi := pk_us
theorem iaf_n {I : Nat → Int32} {a k : Nat} {phi : Int32} (h1 : k ≠ 35) (h2 : k ≠ 36) : iaf I a phi k = I k := by
  unfold iaf
  rw [pk_un h2, pk_un h1]
theorem iaf_s35 {I : Nat → Int32} {a b : Nat} {phi : Int32} : upd (iaf I a phi) 35 (nI b) = iaf I b phi := by
  unfold iaf
  funext k
  by_cases h1 : k = 35
  · subst h1; rw [pk_us, pk_un (by decide), pk_us]
  · rw [pk_un h1]
    by_cases h2 : k = 36
    · subst h2; rw [pk_us, pk_us]
    · rw [pk_un h2, pk_un h2, pk_un h1, pk_un h1]
theorem iaf_s36 {I : Nat → Int32} {a : Nat} {phi psi : Int32} : upd (iaf I a phi) 36 psi = iaf I a psi := upd_upd
theorem iaf_sk {I : Nat → Int32} {a k : Nat} {phi x : Int32} (h1 : k ≠ 35) (h2 : k ≠ 36) : upd (iaf I a phi) k x = iaf (upd I k x) a phi := by
  unfold iaf
  funext j
  by_cases e : j = k
  · subst e; rw [pk_us, pk_un h2, pk_un h1, pk_us]
  · rw [pk_un e]
    by_cases e6 : j = 36
    · subst e6; rw [pk_us, pk_us]
    · rw [pk_un e6, pk_un e6]
      by_cases e5 : j = 35
      · subst e5; rw [pk_us, pk_us]
      · rw [pk_un e5, pk_un e5, pk_un e]
set_option maxRecDepth 20000 in
theorem bX10_look_0 {X : pz_C} (hX : pz_X X cX10_look 1 RX10) : ∀ lv st g c s, (zo_al 1 0 (zo_get 12 35 (zo_al 1 0 (zo_get 12 27 (zo_ic_ge 23 (pz_Z X 1)))))) 0 lv st g c s → pz_Z X 1 0 lv st g c s := (zs_aload_n hX dX10_look_0 rfl (zs_get hX (C := RX10) (T := TX10) (N := 37) rfl in_X10 (by decide) mw_792624ad dX10_look_1 (zs_aload_n hX dX10_look_4 rfl (zs_get hX (C := RX10) (T := TX10) (N := 37) rfl in_X10 (by decide) mw_a8e9bc22 dX10_look_5 (zs_ic_ge hX dX10_look_8 (by decide) (fun _ _ _ _ _ _ h => h))))))
set_option maxRecDepth 20000 in
theorem bX10_look_11 {X : pz_C} (hX : pz_X X cX10_look 1 RX10) : ∀ lv st g c s, (zo_al 1 0 (zo_get 12 28 (zo_al 1 0 (zo_get 12 35 (zo_iald (zo_goto 24 (pz_Z X 1))))))) 11 lv st g c s → pz_Z X 1 11 lv st g c s := (zs_aload_n hX dX10_look_11 rfl (zs_get hX (C := RX10) (T := TX10) (N := 37) rfl in_X10 (by decide) mw_b9007286 dX10_look_12 (zs_aload_n hX dX10_look_15 rfl (zs_get hX (C := RX10) (T := TX10) (N := 37) rfl in_X10 (by decide) mw_792624ad dX10_look_16 (zs_iald hX dX10_look_19 (zs_goto hX dX10_look_20 (by decide) (fun _ _ _ _ _ _ h => h)))))))
set_option maxRecDepth 20000 in
theorem bX10_look_23 {X : pz_C} (hX : pz_X X cX10_look 1 RX10) : ∀ lv st g c s, (zo_ic 1 (-1) (pz_Z X 1)) 23 lv st g c s → pz_Z X 1 23 lv st g c s := (zs_iconst hX dX10_look_23 (by decide) (fun _ _ _ _ _ h => h))
set_option maxRecDepth 20000 in
theorem bX10_look_24 {X : pz_C} {rm : Room} {E : Option pz_V → pz_H → Prop} (hX : pz_X X cX10_look 1 RX10) (hR : pz_Rt X cX10_look 1 (some .int) rm E) : ∀ lv st g c s, (zo_ri rm E) 24 lv st g c s → pz_Z X 1 24 lv st g c s := (zs_ri hR dX10_look_24)
set_option maxRecDepth 20000 in
theorem bX10_fail_0 {X : pz_C} (hX : pz_X X cX10_fail 2 RX10) : ∀ lv st g c s, (zo_al 1 0 (zo_al 1 0 (zo_get 12 36 (zo_if_ge 12 (pz_Z X 2))))) 0 lv st g c s → pz_Z X 2 0 lv st g c s := (zs_aload_n hX dX10_fail_0 rfl (zs_aload_n hX dX10_fail_1 rfl (zs_get hX (C := RX10) (T := TX10) (N := 37) rfl in_X10 (by decide) mw_198aa72f dX10_fail_2 (zs_if_ge hX dX10_fail_5 (by decide) (fun _ _ _ _ _ _ h => h)))))
set_option maxRecDepth 20000 in
theorem bX10_fail_8 {X : pz_C} (hX : pz_X X cX10_fail 2 RX10) : ∀ lv st g c s, (zo_il 1 1 (zo_goto 16 (pz_Z X 2))) 8 lv st g c s → pz_Z X 2 8 lv st g c s := (zs_iload_n hX dX10_fail_8 rfl (zs_goto hX dX10_fail_9 (by decide) (fun _ _ _ _ _ _ h => h)))
set_option maxRecDepth 20000 in
theorem bX10_fail_12 {X : pz_C} (hX : pz_X X cX10_fail 2 RX10) : ∀ lv st g c s, (zo_al 1 0 (zo_get 12 36 (pz_Z X 2))) 12 lv st g c s → pz_Z X 2 12 lv st g c s := (zs_aload_n hX dX10_fail_12 rfl (zs_get hX (C := RX10) (T := TX10) (N := 37) rfl in_X10 (by decide) mw_198aa72f dX10_fail_13 (fun _ _ _ _ _ h => h)))
set_option maxRecDepth 20000 in
theorem bX10_fail_16 {X : pz_C} {rm : Room} {E : Option pz_V → pz_H → Prop} (hX : pz_X X cX10_fail 2 RX10) (hR : pz_Rt X cX10_fail 2 none rm E) : ∀ lv st g c s, (zo_puti 12 36 (zo_rv rm E)) 16 lv st g c s → pz_Z X 2 16 lv st g c s := (zs_puti hX (C := RX10) (T := TX10) (N := 37) rfl in_X10 (by decide) mw_198aa72f tyX10 tyX10_ok nmX10 (by decide +kernel) rfl dX10_fail_16 (zs_rv hR dX10_fail_19))
def rm_X10_look : Room := { frames := 0, cells := 0, slots := 0, locals := 0 }
abbrev gt_X10_look : Type := (Nat × Nat) × mo_T
def pr_X10_look : gt_X10_look → List pz_V → pz_H → Prop := fun ((a, n), (mo, M, I, Ai, Aj)) av g => av = [.inr (.inr (some (mo)))] ∧ I 35 = nI a ∧ a ≤ 1000 ∧ I 27 = nI n ∧ n ≤ 500 ∧ moS g mo M I Ai Aj
def po_X10_look : gt_X10_look → List pz_V → pz_H → Option pz_V → pz_H → Prop := fun ((a, n), (_, _, _, Ai, _)) _ g v g' => g' = g ∧ v = some (.inl (p_lk n (Ai 28) a))
set_option maxRecDepth 20000 in
theorem ct_X10_look {G : pz_Gx} (hOk : pz_OK G) (gh : gt_X10_look) : pz_M G yX10_look cX10_look 1 (some .int) rm_X10_look (pr_X10_look gh) (po_X10_look gh) := by
  obtain ⟨⟨a, n⟩, mo, M, I, Ai, Aj⟩ := gh
  refine pz_ofZ (by decide) hOk.1 (Or.inr (Or.inl rfl)) ?_ ?_
  · rintro av g ⟨rfl, -⟩
    exact Nat.le_of_ble_eq_true rfl
  · rintro X hX hGX hrm - av g ⟨rfl, ha, ha1, hn, hn5, hm⟩ hR
    refine bX10_look_0 hX _ _ _ _ _ ⟨_, _, _, hm.1, rfl, _, _, _, hm.1, rfl, ?_⟩
    rw [ha, hn]
    refine ⟨fun q => ?_, fun q => ?_⟩
    · refine bX10_look_23 hX _ _ _ _ _ ?_
      exact bX10_look_24 hX hR _ _ _ _ _ ⟨Nat.le_refl _, Nat.le_refl _, rfl, by unfold p_lk; rw [if_neg (Nat.not_lt.mpr ((ni_le (by omega) (by omega)).mp q))]⟩
    · have hlt : a < n := Nat.lt_of_not_le (fun z => q ((ni_le (by omega) (by omega)).mpr z))
      refine bX10_look_11 hX _ _ _ _ _ ⟨_, _, _, hm.1, rfl, _, _, _, hm.1, rfl, _, _, _, hm.2.1 28 (by decide), by rw [ha]; exact ni_in (by show a < 500; omega) (by decide), ?_⟩
      rw [ha, ni_cl (by omega)]
      exact bX10_look_24 hX hR _ _ _ _ _ ⟨Nat.le_refl _, Nat.le_refl _, rfl, by unfold p_lk; rw [if_pos hlt]⟩
def rm_X10_fail : Room := { frames := 0, cells := 0, slots := 0, locals := 0 }
abbrev gt_X10_fail : Type := Int32 × mo_T
def pr_X10_fail : gt_X10_fail → List pz_V → pz_H → Prop := fun (w, (mo, M, I, Ai, Aj)) av g => av = [.inr (.inr (some (mo))), .inl (w)] ∧ moS g mo M I Ai Aj
def po_X10_fail : gt_X10_fail → List pz_V → pz_H → Option pz_V → pz_H → Prop := fun (w, (mo, M, I, Ai, Aj)) _ g v g' => v = none ∧ hg moL g g' ∧ moS g' mo M (upd I 36 (p_fl (I 36) w)) Ai Aj
set_option maxRecDepth 20000 in
theorem ct_X10_fail {G : pz_Gx} (hOk : pz_OK G) (gh : gt_X10_fail) : pz_M G yX10_fail cX10_fail 2 none rm_X10_fail (pr_X10_fail gh) (po_X10_fail gh) := by
  obtain ⟨w, mo, M, I, Ai, Aj⟩ := gh
  refine pz_ofZ (by decide) hOk.1 (Or.inl rfl) ?_ ?_
  · rintro av g ⟨rfl, -⟩
    exact Nat.le_of_ble_eq_true rfl
  · rintro X hX hGX hrm - av g ⟨rfl, hm⟩ hR
    have fin : ∀ (x : Int32) (lv : pz_L), x = p_fl (I 36) w → pz_Z X 2 16 lv [.inl (x), .inr (.inr (some (mo)))] g 0 0 := by
      intro x lv hx
      obtain ⟨hm2, hS2⟩ := mo_f hm 36 (by decide) x
      exact bX10_fail_16 hX hR _ _ _ _ _ ⟨_, _, hm.1, Nat.le_of_ble_eq_true rfl, Nat.le_refl _, Nat.le_refl _, rfl, hS2, by rw [← hx]; exact hm2⟩
    refine bX10_fail_0 hX _ _ _ _ _ ⟨_, _, _, hm.1, rfl, fun q => ?_, fun q => ?_⟩
    · refine bX10_fail_12 hX _ _ _ _ _ ⟨_, _, _, hm.1, rfl, ?_⟩
      exact fin _ _ (by unfold p_fl; rw [if_neg (Int32.not_lt.mpr q)])
    · refine bX10_fail_8 hX _ _ _ _ _ ?_
      exact fin _ _ (by unfold p_fl; rw [if_pos (Int32.not_le.mp q)])
set_option maxRecDepth 20000 in
theorem bX10_number_0 {X : pz_C} (hX : pz_X X cX10_number 4 RX10) : ∀ lv st g c s, (zo_al 1 0 (zo_get 12 35 (zo_is 1 2 (zo_ic 1 (0) (zo_is 1 3 (pz_Z X 4)))))) 0 lv st g c s → pz_Z X 4 0 lv st g c s := (zs_aload_n hX dX10_number_0 rfl (zs_get hX (C := RX10) (T := TX10) (N := 37) rfl in_X10 (by decide) mw_792624ad dX10_number_1 (zs_istore_n hX dX10_number_4 rfl (by decide) (zs_iconst hX dX10_number_5 (by decide) (zs_istore_n hX dX10_number_6 rfl (by decide) (fun _ _ _ _ _ h => h))))))
set_option maxRecDepth 20000 in
theorem bX10_number_7 {X : pz_C} (hX : pz_X X cX10_number 4 RX10) : ∀ lv st g c s, (zo_al 1 0 (zo_get 12 35 (zo_il 1 2 (zo_ic 2 (6) (zo_iadd (zo_ic_ge 62 (pz_Z X 4))))))) 7 lv st g c s → pz_Z X 4 7 lv st g c s := (zs_aload_n hX dX10_number_7 rfl (zs_get hX (C := RX10) (T := TX10) (N := 37) rfl in_X10 (by decide) mw_792624ad dX10_number_8 (zs_iload_n hX dX10_number_11 rfl (zs_bipush hX dX10_number_12 (by decide) (zs_iadd hX dX10_number_14 (zs_ic_ge hX dX10_number_15 (by decide) (fun _ _ _ _ _ _ h => h)))))))
set_option maxRecDepth 20000 in
theorem bX10_number_18 {X : pz_C} (hX : pz_X X cX10_number 4 RX10) : ∀ lv st g c s, (zo_al 1 0 (pz_Z X 4)) 18 lv st g c s → pz_Z X 4 18 lv st g c s := (zs_aload_n hX dX10_number_18 rfl (fun _ _ _ _ _ h => h))
set_option maxRecDepth 20000 in
theorem bX10_number_19 {X : pz_C} {G : pz_Gx} {rm : Room} (hX : pz_X X cX10_number 4 RX10) (hrm : pz_rm X = rm) (hGX : pz_GX X G) (hOk : pz_OK G) (gh : gt_X10_look) (hr_X10_look : rm_X10_look.frames + 1 ≤ rm.frames ∧ 8 + (1 + 11) + rm_X10_look.locals ≤ rm.locals) : ∀ lv st g c s, (zo_cV rm 12 0 3 rm_X10_look.cells rm_X10_look.slots (pr_X10_look gh) (po_X10_look gh) (zo_ki (zo_ic 2 (48) (zo_ic_lt 62 (pz_Z X 4))))) 19 lv st g c s → pz_Z X 4 19 lv st g c s := by
  subst hrm
  exact (zs_csV hX hGX (C := RX10) (T := TX10) (N := 37) rfl (ct_X10_look hOk gh) mw_163d9655 mw_3c3d61f3 mw_672af563 mw_33939a39 mw_a8b3240f (by decide +kernel) hr_X10_look dX10_number_19 (zs_ki (zs_bipush hX dX10_number_22 (by decide) (zs_ic_lt hX dX10_number_24 (by decide) (fun _ _ _ _ _ _ h => h)))))
set_option maxRecDepth 20000 in
theorem bX10_number_27 {X : pz_C} (hX : pz_X X cX10_number 4 RX10) : ∀ lv st g c s, (zo_al 1 0 (pz_Z X 4)) 27 lv st g c s → pz_Z X 4 27 lv st g c s := (zs_aload_n hX dX10_number_27 rfl (fun _ _ _ _ _ h => h))
set_option maxRecDepth 20000 in
theorem bX10_number_28 {X : pz_C} {G : pz_Gx} {rm : Room} (hX : pz_X X cX10_number 4 RX10) (hrm : pz_rm X = rm) (hGX : pz_GX X G) (hOk : pz_OK G) (gh : gt_X10_look) (hr_X10_look : rm_X10_look.frames + 1 ≤ rm.frames ∧ 8 + (1 + 11) + rm_X10_look.locals ≤ rm.locals) : ∀ lv st g c s, (zo_cV rm 12 0 3 rm_X10_look.cells rm_X10_look.slots (pr_X10_look gh) (po_X10_look gh) (zo_ki (zo_ic 2 (57) (zo_ic_gt 62 (pz_Z X 4))))) 28 lv st g c s → pz_Z X 4 28 lv st g c s := by
  subst hrm
  exact (zs_csV hX hGX (C := RX10) (T := TX10) (N := 37) rfl (ct_X10_look hOk gh) mw_163d9655 mw_3c3d61f3 mw_672af563 mw_33939a39 mw_a8b3240f (by decide +kernel) hr_X10_look dX10_number_28 (zs_ki (zs_bipush hX dX10_number_31 (by decide) (zs_ic_gt hX dX10_number_33 (by decide) (fun _ _ _ _ _ _ h => h)))))
set_option maxRecDepth 20000 in
theorem bX10_number_36 {X : pz_C} (hX : pz_X X cX10_number 4 RX10) : ∀ lv st g c s, (zo_ic 2 (10) (zo_il 1 3 (zo_imul (zo_al 1 0 (pz_Z X 4))))) 36 lv st g c s → pz_Z X 4 36 lv st g c s := (zs_bipush hX dX10_number_36 (by decide) (zs_iload_n hX dX10_number_38 rfl (zs_imul hX dX10_number_39 (zs_aload_n hX dX10_number_40 rfl (fun _ _ _ _ _ h => h)))))
set_option maxRecDepth 20000 in
theorem bX10_number_41 {X : pz_C} {G : pz_Gx} {rm : Room} (hX : pz_X X cX10_number 4 RX10) (hrm : pz_rm X = rm) (hGX : pz_GX X G) (hOk : pz_OK G) (gh : gt_X10_look) (hr_X10_look : rm_X10_look.frames + 1 ≤ rm.frames ∧ 8 + (1 + 11) + rm_X10_look.locals ≤ rm.locals) : ∀ lv st g c s, (zo_cV rm 12 0 3 rm_X10_look.cells rm_X10_look.slots (pr_X10_look gh) (po_X10_look gh) (zo_ki (zo_iadd (zo_ic 2 (48) (zo_isub (zo_is 1 3 (zo_al 1 0 (zo_dup (zo_get 12 35 (zo_ic 1 (1) (zo_iadd (zo_puti 12 35 (zo_goto 7 (pz_Z X 4)))))))))))))) 41 lv st g c s → pz_Z X 4 41 lv st g c s := by
  subst hrm
  exact (zs_csV hX hGX (C := RX10) (T := TX10) (N := 37) rfl (ct_X10_look hOk gh) mw_163d9655 mw_3c3d61f3 mw_672af563 mw_33939a39 mw_a8b3240f (by decide +kernel) hr_X10_look dX10_number_41 (zs_ki (zs_iadd hX dX10_number_44 (zs_bipush hX dX10_number_45 (by decide) (zs_isub hX dX10_number_47 (zs_istore_n hX dX10_number_48 rfl (by decide) (zs_aload_n hX dX10_number_49 rfl (zs_dup hX dX10_number_50 (zs_get hX (C := RX10) (T := TX10) (N := 37) rfl in_X10 (by decide) mw_792624ad dX10_number_51 (zs_iconst hX dX10_number_54 (by decide) (zs_iadd hX dX10_number_55 (zs_puti hX (C := RX10) (T := TX10) (N := 37) rfl in_X10 (by decide) mw_792624ad tyX10 tyX10_ok nmX10 (by decide +kernel) rfl dX10_number_56 (zs_goto hX dX10_number_59 (by decide) (fun _ _ _ _ _ _ h => h))))))))))))))
set_option maxRecDepth 20000 in
theorem bX10_number_62 {X : pz_C} (hX : pz_X X cX10_number 4 RX10) : ∀ lv st g c s, (zo_al 1 0 (zo_get 12 35 (zo_il 1 2 (zo_ic_ne 81 (pz_Z X 4))))) 62 lv st g c s → pz_Z X 4 62 lv st g c s := (zs_aload_n hX dX10_number_62 rfl (zs_get hX (C := RX10) (T := TX10) (N := 37) rfl in_X10 (by decide) mw_792624ad dX10_number_63 (zs_iload_n hX dX10_number_66 rfl (zs_ic_ne hX dX10_number_67 (by decide) (fun _ _ _ _ _ _ h => h)))))
set_option maxRecDepth 20000 in
theorem bX10_number_70 {X : pz_C} (hX : pz_X X cX10_number 4 RX10) : ∀ lv st g c s, (zo_al 1 0 (zo_al 1 0 (zo_get 12 35 (pz_Z X 4)))) 70 lv st g c s → pz_Z X 4 70 lv st g c s := (zs_aload_n hX dX10_number_70 rfl (zs_aload_n hX dX10_number_71 rfl (zs_get hX (C := RX10) (T := TX10) (N := 37) rfl in_X10 (by decide) mw_792624ad dX10_number_72 (fun _ _ _ _ _ h => h))))
set_option maxRecDepth 20000 in
theorem bX10_number_75 {X : pz_C} {G : pz_Gx} {rm : Room} (hX : pz_X X cX10_number 4 RX10) (hrm : pz_rm X = rm) (hGX : pz_GX X G) (hOk : pz_OK G) (gh : gt_X10_fail) (hr_X10_fail : rm_X10_fail.frames + 1 ≤ rm.frames ∧ 8 + (2 + 11) + rm_X10_fail.locals ≤ rm.locals) : ∀ lv st g c s, (zo_cV rm 12 1 3 rm_X10_fail.cells rm_X10_fail.slots (pr_X10_fail gh) (po_X10_fail gh) (zo_kv (zo_goto 91 (pz_Z X 4)))) 75 lv st g c s → pz_Z X 4 75 lv st g c s := by
  subst hrm
  exact (zs_csV hX hGX (C := RX10) (T := TX10) (N := 37) rfl (ct_X10_fail hOk gh) mw_90a73359 mw_b39d85ff mw_835bf90e mw_33939a39 mw_b0fcd068 (by decide +kernel) hr_X10_fail dX10_number_75 (zs_kv (zs_goto hX dX10_number_78 (by decide) (fun _ _ _ _ _ _ h => h))))
set_option maxRecDepth 20000 in
theorem bX10_number_81 {X : pz_C} (hX : pz_X X cX10_number 4 RX10) : ∀ lv st g c s, (zo_il 1 3 (zo_il 1 1 (zo_ic_le 91 (pz_Z X 4)))) 81 lv st g c s → pz_Z X 4 81 lv st g c s := (zs_iload_n hX dX10_number_81 rfl (zs_iload_n hX dX10_number_82 rfl (zs_ic_le hX dX10_number_83 (by decide) (fun _ _ _ _ _ _ h => h))))
set_option maxRecDepth 20000 in
theorem bX10_number_86 {X : pz_C} (hX : pz_X X cX10_number 4 RX10) : ∀ lv st g c s, (zo_al 1 0 (zo_il 1 2 (pz_Z X 4))) 86 lv st g c s → pz_Z X 4 86 lv st g c s := (zs_aload_n hX dX10_number_86 rfl (zs_iload_n hX dX10_number_87 rfl (fun _ _ _ _ _ h => h)))
set_option maxRecDepth 20000 in
theorem bX10_number_88 {X : pz_C} {G : pz_Gx} {rm : Room} (hX : pz_X X cX10_number 4 RX10) (hrm : pz_rm X = rm) (hGX : pz_GX X G) (hOk : pz_OK G) (gh : gt_X10_fail) (hr_X10_fail : rm_X10_fail.frames + 1 ≤ rm.frames ∧ 8 + (2 + 11) + rm_X10_fail.locals ≤ rm.locals) : ∀ lv st g c s, (zo_cV rm 12 1 3 rm_X10_fail.cells rm_X10_fail.slots (pr_X10_fail gh) (po_X10_fail gh) (zo_kv (pz_Z X 4))) 88 lv st g c s → pz_Z X 4 88 lv st g c s := by
  subst hrm
  exact (zs_csV hX hGX (C := RX10) (T := TX10) (N := 37) rfl (ct_X10_fail hOk gh) mw_90a73359 mw_b39d85ff mw_835bf90e mw_33939a39 mw_b0fcd068 (by decide +kernel) hr_X10_fail dX10_number_88 (zs_kv (fun _ _ _ _ _ h => h)))
set_option maxRecDepth 20000 in
theorem bX10_number_91 {X : pz_C} {rm : Room} {E : Option pz_V → pz_H → Prop} (hX : pz_X X cX10_number 4 RX10) (hR : pz_Rt X cX10_number 4 (some .int) rm E) : ∀ lv st g c s, (zo_il 1 3 (zo_ri rm E)) 91 lv st g c s → pz_Z X 4 91 lv st g c s := (zs_iload_n hX dX10_number_91 rfl (zs_ri hR dX10_number_92))
set_option maxRecDepth 20000 in
theorem bX10_blank_0 {X : pz_C} (hX : pz_X X cX10_blank 1 RX10) : ∀ lv st g c s, (zo_al 1 0 (pz_Z X 1)) 0 lv st g c s → pz_Z X 1 0 lv st g c s := (zs_aload_n hX dX10_blank_0 rfl (fun _ _ _ _ _ h => h))
set_option maxRecDepth 20000 in
theorem bX10_blank_1 {X : pz_C} {G : pz_Gx} {rm : Room} (hX : pz_X X cX10_blank 1 RX10) (hrm : pz_rm X = rm) (hGX : pz_GX X G) (hOk : pz_OK G) (gh : gt_X10_look) (hr_X10_look : rm_X10_look.frames + 1 ≤ rm.frames ∧ 8 + (1 + 11) + rm_X10_look.locals ≤ rm.locals) : ∀ lv st g c s, (zo_cV rm 12 0 3 rm_X10_look.cells rm_X10_look.slots (pr_X10_look gh) (po_X10_look gh) (zo_ki (zo_ic 2 (32) (zo_ic_ne 22 (pz_Z X 1))))) 1 lv st g c s → pz_Z X 1 1 lv st g c s := by
  subst hrm
  exact (zs_csV hX hGX (C := RX10) (T := TX10) (N := 37) rfl (ct_X10_look hOk gh) mw_163d9655 mw_3c3d61f3 mw_672af563 mw_33939a39 mw_a8b3240f (by decide +kernel) hr_X10_look dX10_blank_1 (zs_ki (zs_bipush hX dX10_blank_4 (by decide) (zs_ic_ne hX dX10_blank_6 (by decide) (fun _ _ _ _ _ _ h => h)))))
set_option maxRecDepth 20000 in
theorem bX10_blank_9 {X : pz_C} (hX : pz_X X cX10_blank 1 RX10) : ∀ lv st g c s, (zo_al 1 0 (zo_dup (zo_get 12 35 (zo_ic 1 (1) (zo_iadd (zo_puti 12 35 (zo_goto 30 (pz_Z X 1)))))))) 9 lv st g c s → pz_Z X 1 9 lv st g c s := (zs_aload_n hX dX10_blank_9 rfl (zs_dup hX dX10_blank_10 (zs_get hX (C := RX10) (T := TX10) (N := 37) rfl in_X10 (by decide) mw_792624ad dX10_blank_11 (zs_iconst hX dX10_blank_14 (by decide) (zs_iadd hX dX10_blank_15 (zs_puti hX (C := RX10) (T := TX10) (N := 37) rfl in_X10 (by decide) mw_792624ad tyX10 tyX10_ok nmX10 (by decide +kernel) rfl dX10_blank_16 (zs_goto hX dX10_blank_19 (by decide) (fun _ _ _ _ _ _ h => h))))))))
set_option maxRecDepth 20000 in
theorem bX10_blank_22 {X : pz_C} (hX : pz_X X cX10_blank 1 RX10) : ∀ lv st g c s, (zo_al 1 0 (zo_al 1 0 (zo_get 12 35 (pz_Z X 1)))) 22 lv st g c s → pz_Z X 1 22 lv st g c s := (zs_aload_n hX dX10_blank_22 rfl (zs_aload_n hX dX10_blank_23 rfl (zs_get hX (C := RX10) (T := TX10) (N := 37) rfl in_X10 (by decide) mw_792624ad dX10_blank_24 (fun _ _ _ _ _ h => h))))
set_option maxRecDepth 20000 in
theorem bX10_blank_27 {X : pz_C} {G : pz_Gx} {rm : Room} (hX : pz_X X cX10_blank 1 RX10) (hrm : pz_rm X = rm) (hGX : pz_GX X G) (hOk : pz_OK G) (gh : gt_X10_fail) (hr_X10_fail : rm_X10_fail.frames + 1 ≤ rm.frames ∧ 8 + (2 + 11) + rm_X10_fail.locals ≤ rm.locals) : ∀ lv st g c s, (zo_cV rm 12 1 3 rm_X10_fail.cells rm_X10_fail.slots (pr_X10_fail gh) (po_X10_fail gh) (zo_kv (pz_Z X 1))) 27 lv st g c s → pz_Z X 1 27 lv st g c s := by
  subst hrm
  exact (zs_csV hX hGX (C := RX10) (T := TX10) (N := 37) rfl (ct_X10_fail hOk gh) mw_90a73359 mw_b39d85ff mw_835bf90e mw_33939a39 mw_b0fcd068 (by decide +kernel) hr_X10_fail dX10_blank_27 (zs_kv (fun _ _ _ _ _ h => h)))
set_option maxRecDepth 20000 in
theorem bX10_blank_30 {X : pz_C} {rm : Room} {E : Option pz_V → pz_H → Prop} (hX : pz_X X cX10_blank 1 RX10) (hR : pz_Rt X cX10_blank 1 none rm E) : ∀ lv st g c s, (zo_rv rm E) 30 lv st g c s → pz_Z X 1 30 lv st g c s := (zs_rv hR dX10_blank_30)
def p_nu (n : Nat) (f : Nat → Int32) (most : Int32) : Nat × Int32 → (Nat × Int32) × Int32 := fun (a, phi) => (((tx_dg n f 6 a 0).1, if (tx_dg n f 6 a 0).1 = a then p_fl phi (nI a) else if most < (tx_dg n f 6 a 0).2 then p_fl phi (nI a) else phi), (tx_dg n f 6 a 0).2)
def p_bl (n : Nat) (f : Nat → Int32) : Nat × Int32 → Nat × Int32 := fun (a, phi) => if p_lk n f a = 32 then (a + 1, phi) else (a, p_fl phi (nI a))
def rm_X10_number : Room := { frames := 1, cells := 0, slots := 0, locals := 21 }
abbrev gt_X10_number : Type := (Int32 × Nat × Nat × Int32) × mo_T
def pr_X10_number : gt_X10_number → List pz_V → pz_H → Prop := fun ((most, n, a, phi), (mo, M, I, Ai, Aj)) av g => av = [.inr (.inr (some (mo))), .inl (most)] ∧ a ≤ 900 ∧ I 27 = nI n ∧ n ≤ 500 ∧ moS g mo M (iaf I a phi) Ai Aj
def po_X10_number : gt_X10_number → List pz_V → pz_H → Option pz_V → pz_H → Prop := fun ((most, n, a, phi), (mo, M, I, Ai, Aj)) _ g v g' => v = some (.inl (p_nu n (Ai 28) most (a, phi)).2) ∧ hg moL g g' ∧ moS g' mo M (iaf I (p_nu n (Ai 28) most (a, phi)).1.1 (p_nu n (Ai 28) most (a, phi)).1.2) Ai Aj
theorem dg_bd {n : Nat} {f : Nat → Int32} : ∀ (k a : Nat) (x : Int32), a ≤ (tx_dg n f k a x).1 ∧ (tx_dg n f k a x).1 ≤ a + k
  | 0, a, x => ⟨Nat.le_refl _, Nat.le_refl _⟩
  | k + 1, a, x => by
    unfold tx_dg
    split
    · have := dg_bd (n := n) (f := f) k (a + 1) (10 * x + (f a - 48))
      omega
    · exact ⟨Nat.le_refl _, by omega⟩
theorem dg_assoc (x y z : Int32) : x + y - z = x + (y - z) := by
  rw [Int32.sub_eq_add_neg, Int32.sub_eq_add_neg, Int32.add_assoc]
set_option maxRecDepth 20000 in
set_option maxHeartbeats 4000000 in
theorem ct_X10_number {G : pz_Gx} (hOk : pz_OK G) (gh : gt_X10_number) : pz_M G yX10_number cX10_number 4 (some .int) rm_X10_number (pr_X10_number gh) (po_X10_number gh) := by
  obtain ⟨⟨most, n, a, phi⟩, mo, M, I, Ai, Aj⟩ := gh
  refine pz_ofZ (by decide) hOk.1 (Or.inr (Or.inl rfl)) ?_ ?_
  · rintro av g ⟨rfl, -⟩
    exact Nat.le_of_ble_eq_true rfl
  · rintro X hX hGX hrm - av g ⟨rfl, ha, hn, hn5, hm⟩ hR
    have hbd := dg_bd (n := n) (f := Ai 28) 6 a 0
    -- behind the digits
    have at62 : ∀ (gk : pz_H) (lv : pz_L), hg moL g gk → moS gk mo M (iaf I (tx_dg n (Ai 28) 6 a 0).1 phi) Ai Aj → pz_all lv [(3, .inl ((tx_dg n (Ai 28) 6 a 0).2)), (2, .inl (nI a)), (0, .inr (.inr (some (mo)))), (1, .inl (most))] → pz_Z X 4 62 lv [] gk 0 0 := by
      intro gk lv hS hmk hlv
      refine pz_lsub hlv ?_
      have ret : ∀ (g2 : pz_H) (lv : pz_L), hg moL g g2 → moS g2 mo M (iaf I (tx_dg n (Ai 28) 6 a 0).1 (if (tx_dg n (Ai 28) 6 a 0).1 = a then p_fl phi (nI a) else if most < (tx_dg n (Ai 28) 6 a 0).2 then p_fl phi (nI a) else phi)) Ai Aj → pz_f lv 3 = some (.inl ((tx_dg n (Ai 28) 6 a 0).2)) → pz_Z X 4 91 lv [] g2 0 0 := by
        intro g2 lv hS2 hm2 hlv
        refine pz_lsub (lv' := [(3, .inl ((tx_dg n (Ai 28) 6 a 0).2))]) ⟨hlv, trivial⟩ ?_
        exact bX10_number_91 hX hR _ _ _ _ _ ⟨Nat.le_refl _, Nat.le_refl _, rfl, hS2, hm2⟩
      refine bX10_number_62 hX _ _ _ _ _ ⟨_, _, _, hmk.1, rfl, ?_⟩
      rw [iaf_35]
      refine ⟨fun q => ?_, fun q => ?_⟩
      · have hne : (tx_dg n (Ai 28) 6 a 0).1 ≠ a := fun e => q (by rw [e])
        refine bX10_number_81 hX _ _ _ _ _ ⟨fun q2 => ?_, fun q2 => ?_⟩
        · refine ret gk _ hS ?_ rfl
          rw [if_neg hne, if_neg (Int32.not_lt.mpr q2)]
          exact hmk
        · refine bX10_number_86 hX _ _ _ _ _ ?_
          refine bX10_number_88 hX hrm hGX hOk (nI a, (mo, M, iaf I (tx_dg n (Ai 28) 6 a 0).1 phi, Ai, Aj)) (by decide) _ _ _ _ _ ⟨Nat.le_of_ble_eq_true rfl, ⟨mo, [.inl (nI a)], [100], _, rfl, hmk.1⟩, Nat.le_of_ble_eq_true rfl, Nat.le_of_ble_eq_true rfl, Nat.le_of_ble_eq_true rfl, ⟨rfl, hmk⟩, ?_⟩
          rintro v g2 ⟨rfl, hS2, hm2⟩ -
          refine ret g2 _ (hg_tr hS hS2) ?_ rfl
          rw [if_neg hne, if_pos (Int32.not_le.mp q2)]
          rw [iaf_36, iaf_s36] at hm2
          exact hm2
      · have he : (tx_dg n (Ai 28) 6 a 0).1 = a := ni_inj (by omega) (by omega) q
        refine bX10_number_70 hX _ _ _ _ _ ⟨_, _, _, hmk.1, rfl, ?_⟩
        refine bX10_number_75 hX hrm hGX hOk (nI (tx_dg n (Ai 28) 6 a 0).1, (mo, M, iaf I (tx_dg n (Ai 28) 6 a 0).1 phi, Ai, Aj)) (by decide) _ _ _ _ _ ⟨Nat.le_of_ble_eq_true rfl, ⟨mo, [.inl (nI (tx_dg n (Ai 28) 6 a 0).1)], [100], _, rfl, hmk.1⟩, Nat.le_of_ble_eq_true rfl, Nat.le_of_ble_eq_true rfl, Nat.le_of_ble_eq_true rfl, ⟨rfl, hmk⟩, ?_⟩
        rintro v g2 ⟨rfl, hS2, hm2⟩ -
        refine ret g2 _ (hg_tr hS hS2) ?_ rfl
        rw [iaf_36, iaf_s36] at hm2
        rw [if_pos he]
        rw [he] at hm2 ⊢
        exact hm2
    have loop : ∀ (k b : Nat) (x : Int32) (gk : pz_H), b + k = a + 6 → tx_dg n (Ai 28) 6 a 0 = tx_dg n (Ai 28) k b x → hg moL g gk → moS gk mo M (iaf I b phi) Ai Aj → pz_Z X 4 7 [(3, .inl (x)), (2, .inl (nI a)), (0, .inr (.inr (some (mo)))), (1, .inl (most))] [] gk 0 0 := by
      intro k
      have e6 : nI a + 6 = nI (a + 6) := by rw [show (6 : Int32) = nI 6 from rfl, nI_add]
      induction k with
      | zero =>
        intro b x gk hb he hS hmk
        refine bX10_number_7 hX _ _ _ _ _ ⟨_, _, _, hmk.1, rfl, ?_⟩
        rw [iaf_35]
        refine ⟨fun _ => ?_, fun q => absurd (by rw [e6, ni_le (by omega) (by omega)]; omega) q⟩
        refine at62 gk _ hS ?_ ⟨?_, rfl, rfl, rfl, trivial⟩
        · rw [he]; exact hmk
        · rw [he]; rfl
      | succ k ih =>
        intro b x gk hb he hS hmk
        have stop : ¬ (b < n ∧ 48 ≤ Ai 28 b ∧ Ai 28 b ≤ 57) → ∀ lv : pz_L, pz_all lv [(3, .inl (x)), (2, .inl (nI a)), (0, .inr (.inr (some (mo)))), (1, .inl (most))] → pz_Z X 4 62 lv [] gk 0 0 := by
          intro h lv hlv
          have e : tx_dg n (Ai 28) 6 a 0 = (b, x) := by rw [he]; exact if_neg h
          refine pz_lsub hlv ?_
          refine at62 gk _ hS ?_ ⟨?_, rfl, rfl, rfl, trivial⟩
          · rw [e]; exact hmk
          · rw [e]; rfl
        have hI27 : iaf I b phi 27 = nI n := by rw [iaf_n (by decide) (by decide)]; exact hn
        refine bX10_number_7 hX _ _ _ _ _ ⟨_, _, _, hmk.1, rfl, ?_⟩
        rw [iaf_35]
        refine ⟨fun q => ?_, fun _ => ?_⟩
        · rw [e6, ni_le (by omega) (by omega)] at q
          omega
        refine bX10_number_18 hX _ _ _ _ _ ?_
        refine bX10_number_19 hX hrm hGX hOk ((b, n), (mo, M, iaf I b phi, Ai, Aj)) (by decide) _ _ _ _ _ ⟨Nat.le_of_ble_eq_true rfl, ⟨mo, [], [100], _, rfl, hmk.1⟩, Nat.le_of_ble_eq_true rfl, Nat.le_of_ble_eq_true rfl, Nat.le_of_ble_eq_true rfl, ⟨rfl, iaf_35, by omega, hI27, hn5, hmk⟩, ?_⟩
        rintro v g2 ⟨rfl, rfl⟩ z hz
        cases hz
        refine ⟨fun q => ?_, fun q => ?_⟩
        · refine stop (fun h => ?_) _ ⟨rfl, rfl, rfl, rfl, trivial⟩
          unfold p_lk at q
          rw [if_pos h.1] at q
          exact absurd q (Int32.not_lt.mpr h.2.1)
        · refine bX10_number_27 hX _ _ _ _ _ ?_
          refine bX10_number_28 hX hrm hGX hOk ((b, n), (mo, M, iaf I b phi, Ai, Aj)) (by decide) _ _ _ _ _ ⟨Nat.le_of_ble_eq_true rfl, ⟨mo, [], [100], _, rfl, hmk.1⟩, Nat.le_of_ble_eq_true rfl, Nat.le_of_ble_eq_true rfl, Nat.le_of_ble_eq_true rfl, ⟨rfl, iaf_35, by omega, hI27, hn5, hmk⟩, ?_⟩
          rintro v g2 ⟨rfl, rfl⟩ z hz
          cases hz
          refine ⟨fun q2 => ?_, fun q2 => ?_⟩
          · refine stop (fun h => ?_) _ ⟨rfl, rfl, rfl, rfl, trivial⟩
            unfold p_lk at q2
            rw [if_pos h.1] at q2
            exact absurd q2 (Int32.not_lt.mpr h.2.2)
          · have hbn : b < n := by
              refine Decidable.byContradiction (fun h => q ?_)
              unfold p_lk
              rw [if_neg h]
              decide
            have hlk : p_lk n (Ai 28) b = Ai 28 b := if_pos hbn
            rw [hlk] at q q2
            have hd : b < n ∧ 48 ≤ Ai 28 b ∧ Ai 28 b ≤ 57 := ⟨hbn, Int32.not_lt.mp q, Int32.not_lt.mp q2⟩
            refine bX10_number_36 hX _ _ _ _ _ ?_
            refine bX10_number_41 hX hrm hGX hOk ((b, n), (mo, M, iaf I b phi, Ai, Aj)) (by decide) _ _ _ _ _ ⟨Nat.le_of_ble_eq_true rfl, ⟨mo, [], [100], _, rfl, hmk.1⟩, Nat.le_of_ble_eq_true rfl, Nat.le_of_ble_eq_true rfl, Nat.le_of_ble_eq_true rfl, ⟨rfl, iaf_35, by omega, hI27, hn5, hmk⟩, ?_⟩
            rintro v g2 ⟨rfl, rfl⟩ z hz
            cases hz
            rw [hlk]
            refine ⟨rfl, _, _, _, hmk.1, rfl, _, _, hmk.1, Nat.le_of_ble_eq_true rfl, ?_⟩
            rw [iaf_35, nI_1]
            obtain ⟨hm2, hS2⟩ := mo_f hmk 35 (by decide) (nI (b + 1))
            rw [iaf_s35] at hm2
            refine pz_lsub (lv' := [(3, .inl (10 * x + (Ai 28 b - 48))), (2, .inl (nI a)), (0, .inr (.inr (some (mo)))), (1, .inl (most))]) ⟨(show some (Sum.inl (10 * x + Ai 28 b - 48) : pz_V) = some (Sum.inl (10 * x + (Ai 28 b - 48))) by rw [dg_assoc]), rfl, rfl, rfl, trivial⟩ ?_
            refine ih (b + 1) (10 * x + (Ai 28 b - 48)) _ (by omega) ?_ (hg_tr hS hS2) hm2
            rw [he]
            exact if_pos hd
    refine bX10_number_0 hX _ _ _ _ _ ⟨_, _, _, hm.1, rfl, ?_⟩
    rw [iaf_35]
    refine pz_lsub (lv' := [(3, .inl (0)), (2, .inl (nI a)), (0, .inr (.inr (some (mo)))), (1, .inl (most))]) ⟨rfl, rfl, rfl, rfl, trivial⟩ ?_
    exact loop 6 a 0 g rfl rfl hg_rf hm
def rm_X10_blank : Room := { frames := 1, cells := 0, slots := 0, locals := 21 }
abbrev gt_X10_blank : Type := (Nat × Nat × Int32) × mo_T
def pr_X10_blank : gt_X10_blank → List pz_V → pz_H → Prop := fun ((n, a, phi), (mo, M, I, Ai, Aj)) av g => av = [.inr (.inr (some (mo)))] ∧ a ≤ 900 ∧ I 27 = nI n ∧ n ≤ 500 ∧ moS g mo M (iaf I a phi) Ai Aj
def po_X10_blank : gt_X10_blank → List pz_V → pz_H → Option pz_V → pz_H → Prop := fun ((n, a, phi), (mo, M, I, Ai, Aj)) _ g v g' => v = none ∧ hg moL g g' ∧ moS g' mo M (iaf I (p_bl n (Ai 28) (a, phi)).1 (p_bl n (Ai 28) (a, phi)).2) Ai Aj
set_option maxRecDepth 20000 in
set_option maxHeartbeats 4000000 in
theorem ct_X10_blank {G : pz_Gx} (hOk : pz_OK G) (gh : gt_X10_blank) : pz_M G yX10_blank cX10_blank 1 none rm_X10_blank (pr_X10_blank gh) (po_X10_blank gh) := by
  obtain ⟨⟨n, a, phi⟩, mo, M, I, Ai, Aj⟩ := gh
  refine pz_ofZ (by decide) hOk.1 (Or.inl rfl) ?_ ?_
  · rintro av g ⟨rfl, -⟩
    exact Nat.le_of_ble_eq_true rfl
  · rintro X hX hGX hrm - av g ⟨rfl, ha, hn, hn5, hm⟩ hR
    have hI27 : iaf I a phi 27 = nI n := by rw [iaf_n (by decide) (by decide)]; exact hn
    refine bX10_blank_0 hX _ _ _ _ _ ?_
    refine bX10_blank_1 hX hrm hGX hOk ((a, n), (mo, M, iaf I a phi, Ai, Aj)) (by decide) _ _ _ _ _ ⟨Nat.le_of_ble_eq_true rfl, ⟨mo, [], [100], _, rfl, hm.1⟩, Nat.le_of_ble_eq_true rfl, Nat.le_of_ble_eq_true rfl, Nat.le_of_ble_eq_true rfl, ⟨rfl, iaf_35, by omega, hI27, hn5, hm⟩, ?_⟩
    rintro v g2 ⟨rfl, rfl⟩ z hz
    cases hz
    refine ⟨fun q => ?_, fun q => ?_⟩
    · refine bX10_blank_22 hX _ _ _ _ _ ⟨_, _, _, hm.1, rfl, ?_⟩
      rw [iaf_35]
      refine bX10_blank_27 hX hrm hGX hOk (nI a, (mo, M, iaf I a phi, Ai, Aj)) (by decide) _ _ _ _ _ ⟨Nat.le_of_ble_eq_true rfl, ⟨mo, [.inl (nI a)], [100], _, rfl, hm.1⟩, Nat.le_of_ble_eq_true rfl, Nat.le_of_ble_eq_true rfl, Nat.le_of_ble_eq_true rfl, ⟨rfl, hm⟩, ?_⟩
      rintro v g2 ⟨rfl, hS2, hm2⟩ -
      rw [iaf_36, iaf_s36] at hm2
      refine bX10_blank_30 hX hR _ _ _ _ _ ⟨Nat.le_refl _, Nat.le_refl _, rfl, hS2, ?_⟩
      rw [show p_bl n (Ai 28) (a, phi) = (a, p_fl phi (nI a)) from if_neg q]
      exact hm2
    · refine bX10_blank_9 hX _ _ _ _ _ ⟨rfl, _, _, _, hm.1, rfl, _, _, hm.1, Nat.le_of_ble_eq_true rfl, ?_⟩
      rw [iaf_35, nI_1]
      obtain ⟨hm2, hS2⟩ := mo_f hm 35 (by decide) (nI (a + 1))
      rw [iaf_s35] at hm2
      refine bX10_blank_30 hX hR _ _ _ _ _ ⟨Nat.le_refl _, Nat.le_refl _, rfl, hS2, ?_⟩
      rw [show p_bl n (Ai 28) (a, phi) = (a + 1, phi) from if_pos q]
      exact hm2
