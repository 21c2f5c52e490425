theorem mw_10c164ed : Cond.code yX9_exception cX9_exception 7 (some .int) ∈ pz_W := pz_in (List.mem_append_right _ (List.mem_append_right _ (List.mem_append_right _ (List.mem_append_left _ (List.mem_of_getElem? (i := 81) (by decide +kernel)))))) (by decide +kernel)
theorem mw_150b419c : Cond.selects RX9 yX9_zone yX9_zone ∈ pz_W := pz_in (List.mem_append_right _ (List.mem_append_right _ (List.mem_append_right _ (List.mem_append_left _ (List.mem_of_getElem? (i := 112) (by decide +kernel)))))) (by decide +kernel)
theorem mw_1bd6994f : Cond.methodLink RL 23 yX9_exception ∈ pz_W := pz_in (List.mem_append_right _ (List.mem_append_right _ (List.mem_append_right _ (List.mem_append_left _ (List.mem_of_getElem? (i := 78) (by decide +kernel)))))) (by decide +kernel)
theorem mw_236b2f9a : Cond.selects RX9 yX9_earliest yX9_earliest ∈ pz_W := pz_in (List.mem_append_right _ (List.mem_append_right _ (List.mem_append_right _ (List.mem_append_left _ (List.mem_of_getElem? (i := 188) (by decide +kernel)))))) (by decide +kernel)
theorem mw_2971d336 : Cond.selects RX9 yX9_line yX9_line ∈ pz_W := pz_in (List.mem_append_right _ (List.mem_append_right _ (List.mem_append_left _ (List.mem_of_getElem? (i := 189) (by decide +kernel))))) (by decide +kernel)
theorem mw_2d7f2b72 : Cond.methodLink RL 46 yX9_days ∈ pz_W := pz_in (List.mem_append_right _ (List.mem_append_right _ (List.mem_append_right _ (List.mem_append_right _ (List.mem_append_left _ (List.mem_of_getElem? (i := 36) (by decide +kernel))))))) (by decide +kernel)
theorem mw_2ff67c7a : Cond.methodLink RL 42 yX9_step ∈ pz_W := pz_in (List.mem_append_right _ (List.mem_append_right _ (List.mem_append_right _ (List.mem_append_right _ (List.mem_append_left _ (List.mem_of_getElem? (i := 27) (by decide +kernel))))))) (by decide +kernel)
theorem mw_329ca453 : Cond.selects RX9 yX9_stop yX9_stop ∈ pz_W := pz_in (List.mem_append_right _ (List.mem_append_right _ (List.mem_append_right _ (List.mem_append_left _ (List.mem_of_getElem? (i := 50) (by decide +kernel)))))) (by decide +kernel)
theorem mw_36536e3a : Cond.methodLink RL 51 yX9_next ∈ pz_W := pz_in (List.mem_append_right _ (List.mem_append_right _ (List.mem_append_right _ (List.mem_append_right _ (List.mem_append_left _ (List.mem_of_getElem? (i := 66) (by decide +kernel))))))) (by decide +kernel)
theorem mw_41f7948e : Cond.methodLink RL 17 yX9_stop ∈ pz_W := pz_in (List.mem_append_right _ (List.mem_append_right _ (List.mem_append_right _ (List.mem_append_left _ (List.mem_of_getElem? (i := 48) (by decide +kernel)))))) (by decide +kernel)
theorem mw_47ae7ab8 : Cond.instanceMethod yX9_next ∈ pz_W := pz_in (List.mem_append_right _ (List.mem_append_right _ (List.mem_append_right _ (List.mem_append_right _ (List.mem_append_left _ (List.mem_of_getElem? (i := 67) (by decide +kernel))))))) (by decide +kernel)
theorem mw_4a09c3ea : Cond.selects RX9 yX9_next yX9_next ∈ pz_W := pz_in (List.mem_append_right _ (List.mem_append_right _ (List.mem_append_right _ (List.mem_append_right _ (List.mem_append_left _ (List.mem_of_getElem? (i := 68) (by decide +kernel))))))) (by decide +kernel)
theorem mw_4cb96bae : Cond.code yX9_change cX9_change 8 (some .int) ∈ pz_W := pz_in (List.mem_append_right _ (List.mem_append_right _ (List.mem_append_right _ (List.mem_append_left _ (List.mem_of_getElem? (i := 159) (by decide +kernel)))))) (by decide +kernel)
theorem mw_5307be01 : Cond.code yX9_sign cX9_sign 2 none ∈ pz_W := pz_in (List.mem_append_right _ (List.mem_append_right _ (List.mem_append_right _ (List.mem_append_right _ (List.mem_append_left _ (List.mem_of_getElem? (i := 94) (by decide +kernel))))))) (by decide +kernel)
theorem mw_674f04e3 : Cond.methodLink RL 27 yX9_zone ∈ pz_W := pz_in (List.mem_append_right _ (List.mem_append_right _ (List.mem_append_right _ (List.mem_append_left _ (List.mem_of_getElem? (i := 110) (by decide +kernel)))))) (by decide +kernel)
theorem mw_68ba39fd : Cond.classLink RL 15 "java/lang/UnsupportedOperationException" ∈ pz_W := pz_in (List.mem_append_right _ (List.mem_append_right _ (List.mem_append_left _ (List.mem_of_getElem? (i := 186) (by decide +kernel))))) (by decide +kernel)
theorem mw_6adb22e8 : Cond.selects RX9 yX9_sign yX9_sign ∈ pz_W := pz_in (List.mem_append_right _ (List.mem_append_right _ (List.mem_append_right _ (List.mem_append_right _ (List.mem_append_left _ (List.mem_of_getElem? (i := 93) (by decide +kernel))))))) (by decide +kernel)
theorem mw_6c806c75 : Cond.selects RX9 yX9_change yX9_change ∈ pz_W := pz_in (List.mem_append_right _ (List.mem_append_right _ (List.mem_append_right _ (List.mem_append_left _ (List.mem_of_getElem? (i := 158) (by decide +kernel)))))) (by decide +kernel)
theorem mw_7290da65 : Cond.code yX9_next cX9_next 6 (some .int) ∈ pz_W := pz_in (List.mem_append_right _ (List.mem_append_right _ (List.mem_append_right _ (List.mem_append_right _ (List.mem_append_left _ (List.mem_of_getElem? (i := 69) (by decide +kernel))))))) (by decide +kernel)
theorem mw_74cd6cb2 : Cond.selects RX9 yX9_step yX9_step ∈ pz_W := pz_in (List.mem_append_right _ (List.mem_append_right _ (List.mem_append_right _ (List.mem_append_right _ (List.mem_append_left _ (List.mem_of_getElem? (i := 29) (by decide +kernel))))))) (by decide +kernel)
theorem mw_74fcb1c4 : Cond.instanceMethod yX9_change ∈ pz_W := pz_in (List.mem_append_right _ (List.mem_append_right _ (List.mem_append_right _ (List.mem_append_left _ (List.mem_of_getElem? (i := 157) (by decide +kernel)))))) (by decide +kernel)
theorem mw_76202355 : Cond.code yX9_step cX9_step 3 (some .int) ∈ pz_W := pz_in (List.mem_append_right _ (List.mem_append_right _ (List.mem_append_right _ (List.mem_append_right _ (List.mem_append_left _ (List.mem_of_getElem? (i := 30) (by decide +kernel))))))) (by decide +kernel)
theorem mw_766968d5 : Cond.methodLink RL 7 yX9_line ∈ pz_W := pz_in (List.mem_append_right _ (List.mem_append_right _ (List.mem_append_left _ (List.mem_of_getElem? (i := 187) (by decide +kernel))))) (by decide +kernel)
theorem mw_8655f7bd : Cond.methodLink RL 38 yX9_earliest ∈ pz_W := pz_in (List.mem_append_right _ (List.mem_append_right _ (List.mem_append_right _ (List.mem_append_left _ (List.mem_of_getElem? (i := 186) (by decide +kernel)))))) (by decide +kernel)
theorem mw_90bc1879 : Cond.instanceMethod yX9_exception ∈ pz_W := pz_in (List.mem_append_right _ (List.mem_append_right _ (List.mem_append_right _ (List.mem_append_left _ (List.mem_of_getElem? (i := 79) (by decide +kernel)))))) (by decide +kernel)
theorem mw_92292181 : Cond.selects RX9 yX9_days yX9_days ∈ pz_W := pz_in (List.mem_append_right _ (List.mem_append_right _ (List.mem_append_right _ (List.mem_append_right _ (List.mem_append_left _ (List.mem_of_getElem? (i := 38) (by decide +kernel))))))) (by decide +kernel)
theorem mw_931f6ee0 : Cond.instanceMethod yX9_step ∈ pz_W := pz_in (List.mem_append_right _ (List.mem_append_right _ (List.mem_append_right _ (List.mem_append_right _ (List.mem_append_left _ (List.mem_of_getElem? (i := 28) (by decide +kernel))))))) (by decide +kernel)
theorem mw_96b4de69 : Cond.code yX9_earliest cX9_earliest 6 (some .long) ∈ pz_W := pz_in (List.mem_append_right _ (List.mem_append_right _ (List.mem_append_right _ (List.mem_append_left _ (List.mem_of_getElem? (i := 189) (by decide +kernel)))))) (by decide +kernel)
theorem mw_98b44b7e : Cond.code yX9_least cX9_least 6 (some .int) ∈ pz_W := pz_in (List.mem_append_right _ (List.mem_append_right _ (List.mem_append_right _ (List.mem_append_left _ (List.mem_of_getElem? (i := 151) (by decide +kernel)))))) (by decide +kernel)
theorem mw_9a4a1f13 : Cond.code yX9_zone cX9_zone 7 (some .int) ∈ pz_W := pz_in (List.mem_append_right _ (List.mem_append_right _ (List.mem_append_right _ (List.mem_append_left _ (List.mem_of_getElem? (i := 113) (by decide +kernel)))))) (by decide +kernel)
theorem mw_a4948313 : Cond.instanceMethod yX9_sign ∈ pz_W := pz_in (List.mem_append_right _ (List.mem_append_right _ (List.mem_append_right _ (List.mem_append_right _ (List.mem_append_left _ (List.mem_of_getElem? (i := 92) (by decide +kernel))))))) (by decide +kernel)
theorem mw_a4ee420d : Cond.methodLink RL 31 yX9_least ∈ pz_W := pz_in (List.mem_append_right _ (List.mem_append_right _ (List.mem_append_right _ (List.mem_append_left _ (List.mem_of_getElem? (i := 148) (by decide +kernel)))))) (by decide +kernel)
theorem mw_ac495544 : Cond.code yX9_stop cX9_stop 8 (some .int) ∈ pz_W := pz_in (List.mem_append_right _ (List.mem_append_right _ (List.mem_append_right _ (List.mem_append_left _ (List.mem_of_getElem? (i := 51) (by decide +kernel)))))) (by decide +kernel)
theorem mw_aee7d677 : Cond.selects RX9 yX9_exception yX9_exception ∈ pz_W := pz_in (List.mem_append_right _ (List.mem_append_right _ (List.mem_append_right _ (List.mem_append_left _ (List.mem_of_getElem? (i := 80) (by decide +kernel)))))) (by decide +kernel)
theorem mw_b6a65bcd : Cond.instanceMethod yX9_least ∈ pz_W := pz_in (List.mem_append_right _ (List.mem_append_right _ (List.mem_append_right _ (List.mem_append_left _ (List.mem_of_getElem? (i := 149) (by decide +kernel)))))) (by decide +kernel)
theorem mw_b6ae0a28 : Cond.instanceMethod yX9_earliest ∈ pz_W := pz_in (List.mem_append_right _ (List.mem_append_right _ (List.mem_append_right _ (List.mem_append_left _ (List.mem_of_getElem? (i := 187) (by decide +kernel)))))) (by decide +kernel)
theorem mw_b8853da4 : Cond.methodLink RL 55 yX9_sign ∈ pz_W := pz_in (List.mem_append_right _ (List.mem_append_right _ (List.mem_append_right _ (List.mem_append_right _ (List.mem_append_left _ (List.mem_of_getElem? (i := 91) (by decide +kernel))))))) (by decide +kernel)
theorem mw_b8a3b66c : Cond.classLink RL 13 "java/lang/IllegalArgumentException" ∈ pz_W := pz_in (List.mem_append_right _ (List.mem_append_right _ (List.mem_append_left _ (List.mem_of_getElem? (i := 185) (by decide +kernel))))) (by decide +kernel)
theorem mw_b8b45e02 : Cond.instanceMethod yX9_stop ∈ pz_W := pz_in (List.mem_append_right _ (List.mem_append_right _ (List.mem_append_right _ (List.mem_append_left _ (List.mem_of_getElem? (i := 49) (by decide +kernel)))))) (by decide +kernel)
theorem mw_bb625a0a : Cond.instanceMethod yX9_line ∈ pz_W := pz_in (List.mem_append_right _ (List.mem_append_right _ (List.mem_append_left _ (List.mem_of_getElem? (i := 188) (by decide +kernel))))) (by decide +kernel)
theorem mw_c37357da : Cond.code yX9_line cX9_line 2 (some .int) ∈ pz_W := pz_in (List.mem_append_right _ (List.mem_append_right _ (List.mem_append_left _ (List.mem_of_getElem? (i := 190) (by decide +kernel))))) (by decide +kernel)
theorem mw_c99be4d0 : Cond.classLink RL 21 "java/lang/IndexOutOfBoundsException" ∈ pz_W := pz_in (List.mem_append_right _ (List.mem_append_right _ (List.mem_append_right _ (List.mem_append_left _ (List.mem_of_getElem? (i := 47) (by decide +kernel)))))) (by decide +kernel)
theorem mw_d435b249 : Cond.classLink RL 49 RJx00060 ∈ pz_W := pz_in (List.mem_append_right _ (List.mem_append_right _ (List.mem_append_right _ (List.mem_append_right _ (List.mem_append_left _ (List.mem_of_getElem? (i := 35) (by decide +kernel))))))) (by decide +kernel)
theorem mw_d6c86b5c : Cond.methodLink RL 35 yX9_change ∈ pz_W := pz_in (List.mem_append_right _ (List.mem_append_right _ (List.mem_append_right _ (List.mem_append_left _ (List.mem_of_getElem? (i := 156) (by decide +kernel)))))) (by decide +kernel)
theorem mw_d7180d2a : Cond.instanceMethod yX9_zone ∈ pz_W := pz_in (List.mem_append_right _ (List.mem_append_right _ (List.mem_append_right _ (List.mem_append_left _ (List.mem_of_getElem? (i := 111) (by decide +kernel)))))) (by decide +kernel)
theorem mw_f0b6423d : Cond.instanceMethod yX9_days ∈ pz_W := pz_in (List.mem_append_right _ (List.mem_append_right _ (List.mem_append_right _ (List.mem_append_right _ (List.mem_append_left _ (List.mem_of_getElem? (i := 37) (by decide +kernel))))))) (by decide +kernel)
theorem mw_f8d8c1fd : Cond.selects RX9 yX9_least yX9_least ∈ pz_W := pz_in (List.mem_append_right _ (List.mem_append_right _ (List.mem_append_right _ (List.mem_append_left _ (List.mem_of_getElem? (i := 150) (by decide +kernel)))))) (by decide +kernel)
theorem mw_fe19d6ca : Cond.code yX9_days cX9_days 3 (some .int) ∈ pz_W := pz_in (List.mem_append_right _ (List.mem_append_right _ (List.mem_append_right _ (List.mem_append_right _ (List.mem_append_left _ (List.mem_of_getElem? (i := 39) (by decide +kernel))))))) (by decide +kernel)
/-! the law's methods with handlers -/
abbrev ou_c (f : Nat → Int64) : pz_E := .inl (1, 1, .inr (.inl f))
set_option maxRecDepth 20000 in
theorem bL_line_0 {X : pz_C} (hX : pz_X X cL_line 4 RL) : ∀ lv st g c s, (zo_al 1 2 (zo_ic 1 (0) (zo_al 1 0 (zo_il 1 1 (pz_Z X 4))))) 0 lv st g c s → pz_Z X 4 0 lv st g c s := (zs_aload_n hX dL_line_0 rfl (zs_iconst hX dL_line_1 (by decide) (zs_aload_n hX dL_line_2 rfl (zs_iload_n hX dL_line_3 rfl (fun _ _ _ _ _ h => h)))))
set_option maxRecDepth 20000 in
theorem bL_line_4 {X : pz_C} {G : pz_Gx} {sa md mi : Nat} {rm : Room} (hX : pz_X X cL_line 4 RL) (hrm : pz_rm X = rm) (hGX : pz_GX X G) (hOk : pz_O4 G sa md mi) (gh : gt_X9_line) (hr_X9_line : rm_X9_line.frames + 1 ≤ rm.frames ∧ 8 + (2 + 11) + rm_X9_line.locals ≤ rm.locals) : ∀ lv st g c s, (zo_cVX rm 11 1 3 rm_X9_line.cells rm_X9_line.slots (pr_X9_line sa gh) (po_X9_line sa gh) (px_X9_line sa gh) (pz_ZX X 4) (zo_ki (zo_i2l (zo_last (zo_goto 18 (pz_Z X 4)))))) 4 lv st g c s → pz_Z X 4 4 lv st g c s := by
  subst hrm
  exact (zs_csVX hX hGX (C := RX9) (T := TX9) (N := 7) rfl (ct_X9_line hOk.1 gh) mw_766968d5 mw_bb625a0a mw_2971d336 mw_8bb91264 mw_c37357da (by decide +kernel) hr_X9_line dL_line_4 (fun _ _ _ _ _ _ _ h => h) (zs_ki (zs_i2l hX dL_line_7 (zs_last hX dL_line_8 (zs_goto hX dL_line_9 (by decide) (fun _ _ _ _ _ _ h => h))))))
set_option maxRecDepth 20000 in
theorem bL_line_12 {X : pz_C} {rm : Room} {E : Option pz_V → pz_H → Prop} (hX : pz_X X cL_line 4 RL) (hR : pz_Rt X cL_line 4 (some .int) rm E) : ∀ lv st g c s, (zo_as 1 3 (zo_ic 1 (1) (zo_ri rm E))) 12 lv st g c s → pz_Z X 4 12 lv st g c s := (zs_astore_n hX dL_line_12 rfl (by decide) (zs_iconst hX dL_line_13 (by decide) (zs_ri hR dL_line_14)))
set_option maxRecDepth 20000 in
theorem bL_line_15 {X : pz_C} {rm : Room} {E : Option pz_V → pz_H → Prop} (hX : pz_X X cL_line 4 RL) (hR : pz_Rt X cL_line 4 (some .int) rm E) : ∀ lv st g c s, (zo_as 1 3 (zo_ic 1 (2) (zo_ri rm E))) 15 lv st g c s → pz_Z X 4 15 lv st g c s := (zs_astore_n hX dL_line_15 rfl (by decide) (zs_iconst hX dL_line_16 (by decide) (zs_ri hR dL_line_17)))
set_option maxRecDepth 20000 in
theorem bL_line_18 {X : pz_C} {rm : Room} {E : Option pz_V → pz_H → Prop} (hX : pz_X X cL_line 4 RL) (hR : pz_Rt X cL_line 4 (some .int) rm E) : ∀ lv st g c s, (zo_ic 1 (0) (zo_ri rm E)) 18 lv st g c s → pz_Z X 4 18 lv st g c s := (zs_iconst hX dL_line_18 (by decide) (zs_ri hR dL_line_19))
def hhL_line : List (Nat × Nat × Nat × Nat) := [(0, 9, 12, 13), (0, 9, 15, 15)]
def rm_L_line : Room := { frames := 8, cells := 37, slots := 483, locals := 192 }
abbrev gt_L_line : Type := gt_X9_line × Nat × (Nat → Int64)
def pr_L_line (sa md : Nat) : gt_L_line → List pz_V → pz_H → Prop := fun (gk, out, fo) av g => ∃ avK, av = avK ++ [.inr (.inr (some (out)))] ∧ pr_X9_line sa gk avK g ∧ (∃ h lb fs rs, avK = .inr (.inr (some (h))) :: rs ∧ g h = some (lb, .inr (11, fs))) ∧ g out = some ([17], ou_c fo)
def po_L_line (sa md : Nat) : gt_L_line → List pz_V → pz_H → Option pz_V → pz_H → Prop := fun (gk, out, fo) _ g v g' => (v = some (.inl 0) ∧ ∃ y g1 f', po_X9_line sa gk [] g (some (.inl (y))) g1 ∧ g1 out = some ([17], ou_c fo) ∧ f' 0 = y.toInt64 ∧ g' = va_up g1 out (some ([17], ou_c f'))) ∨ ∃ E, px_X9_line sa gk [] g E g' ∧ ((E = nIAE ∧ v = some (.inl 1)) ∨ (E = nUOE ∧ v = some (.inl 2)))
set_option maxRecDepth 20000 in
theorem ct_L_line {G : pz_Gx} {sa md mi : Nat} (hOk : pz_O4 G sa md mi) (gh : gt_L_line) : pz_MH G yL_line cL_line 4 (some .int) hhL_line rm_L_line (pr_L_line sa md gh) (po_L_line sa md gh) := by
  obtain ⟨gk, out, fo⟩ := gh
  refine pz_ofZH (by decide) hOk.1.1.1.1 rfl ?_ ?_
  · rintro av g ⟨avK, rfl, hp, -⟩
    obtain ⟨⟨h, x⟩, ⟨nt, wy, lv, tx⟩, ⟨ne, nz, nw⟩, ⟨la, pa, na, so, fd, Wa⟩, ⟨nl, L, U⟩⟩ := gk
    obtain ⟨rfl, -⟩ := hp
    exact Nat.le_of_ble_eq_true rfl
  · rintro X hX hGX hrm hTab av g ⟨avK, rfl, hp, ⟨h0, lb, fs, rs, e0, hc0⟩, hout⟩ hR
    obtain ⟨⟨h, x⟩, ⟨nt, wy, lv, tx⟩, ⟨ne, nz, nw⟩, ⟨la, pa, na, so, fd, Wa⟩, ⟨nl, L, U⟩⟩ := gk
    obtain ⟨rfl, -⟩ := id hp
    cases e0
    refine bL_line_0 hX _ _ _ _ _ ?_
    refine bL_line_4 hX hrm hGX hOk _ (by decide) _ _ _ _ _ ⟨Nat.le_of_ble_eq_true rfl, ⟨_, [.inl (x)], lb, fs, rfl, hc0⟩, Nat.le_of_ble_eq_true rfl, Nat.le_of_ble_eq_true rfl, Nat.le_of_ble_eq_true rfl, hp, ?_, ?_⟩
    · intro E g2 hpx
      have hE : E = nIAE ∨ E = nUOE := by rcases id hpx with ⟨-, ⟨rfl, -⟩ | ⟨rfl, -⟩⟩ <;> simp
      rcases hE with rfl | rfl
      · refine zs_catch hX hGX hOk hTab (by simp) [] ⟨0, 9, 12, 13⟩ [⟨0, 9, 15, 15⟩] rfl (fun z hz => by cases hz) rfl (by decide) mw_b8a3b66c (fun q => ?_)
        exact bL_line_12 hX hR _ _ _ _ _ ⟨Nat.le_of_ble_eq_true rfl, Nat.le_of_ble_eq_true rfl, Or.inr ⟨_, hpx, Or.inl ⟨rfl, rfl⟩⟩⟩
      · refine zs_catch hX hGX hOk hTab (by simp) [⟨0, 9, 12, 13⟩] ⟨0, 9, 15, 15⟩ [] rfl (fun z hz => by
        rcases List.mem_cons.mp hz with rfl | hz
        · exact ⟨by decide, _, mw_b8a3b66c, fun U h => h.2.2.2⟩
        · cases hz) rfl (by decide) mw_68ba39fd (fun q => ?_)
        exact bL_line_15 hX hR _ _ _ _ _ ⟨Nat.le_of_ble_eq_true rfl, Nat.le_of_ble_eq_true rfl, Or.inr ⟨_, hpx, Or.inr ⟨rfl, rfl⟩⟩⟩
    · intro v g2 hpo z hz
      subst hz
      have hout2 : g2 out = some ([17], ou_c fo) := by
        exact hpo.2.2.2.1 _ _ _ hout (by simp)
      refine ⟨_, _, _, hout2, ni_in (j := 0) (n := 1) (by omega) (by omega), ?_⟩
      exact bL_line_18 hX hR _ _ _ _ _ ⟨Nat.le_of_ble_eq_true rfl, Nat.le_of_ble_eq_true rfl, Or.inl ⟨rfl, z, g2, _, hpo, hout2, rfl, rfl⟩⟩
set_option maxRecDepth 20000 in
theorem bL_stop_0 {X : pz_C} (hX : pz_X X cL_stop 9 RL) : ∀ lv st g c s, (zo_al 2 7 (zo_ic 1 (0) (zo_al 1 0 (zo_il 1 1 (zo_il 1 2 (zo_ll 1 3 (zo_ll 2 5 (pz_Z X 9)))))))) 0 lv st g c s → pz_Z X 9 0 lv st g c s := (zs_aload hX dL_stop_0 (zs_iconst hX dL_stop_2 (by decide) (zs_aload_n hX dL_stop_3 rfl (zs_iload_n hX dL_stop_4 rfl (zs_iload_n hX dL_stop_5 rfl (zs_lload_n hX dL_stop_6 rfl (zs_lload hX dL_stop_7 (fun _ _ _ _ _ h => h))))))))
set_option maxRecDepth 20000 in
theorem bL_stop_9 {X : pz_C} {G : pz_Gx} {sa md mi : Nat} {rm : Room} (hX : pz_X X cL_stop 9 RL) (hrm : pz_rm X = rm) (hGX : pz_GX X G) (hOk : pz_O4 G sa md mi) (gh : gt_X9_stop) (hr_X9_stop : rm_X9_stop.frames + 1 ≤ rm.frames ∧ 8 + (8 + 11) + rm_X9_stop.locals ≤ rm.locals) : ∀ lv st g c s, (zo_cVX rm 11 4 3 rm_X9_stop.cells rm_X9_stop.slots (pr_X9_stop sa gh) (po_X9_stop sa gh) (px_X9_stop gh) (pz_ZX X 9) (zo_ki (zo_i2l (zo_last (zo_goto 29 (pz_Z X 9)))))) 9 lv st g c s → pz_Z X 9 9 lv st g c s := by
  subst hrm
  exact (zs_csVX hX hGX (C := RX9) (T := TX9) (N := 7) rfl (ct_X9_stop hOk.1 gh) mw_41f7948e mw_b8b45e02 mw_329ca453 mw_8bb91264 mw_ac495544 (by decide +kernel) hr_X9_stop dL_stop_9 (fun _ _ _ _ _ _ _ h => h) (zs_ki (zs_i2l hX dL_stop_12 (zs_last hX dL_stop_13 (zs_goto hX dL_stop_14 (by decide) (fun _ _ _ _ _ _ h => h))))))
set_option maxRecDepth 20000 in
theorem bL_stop_17 {X : pz_C} {rm : Room} {E : Option pz_V → pz_H → Prop} (hX : pz_X X cL_stop 9 RL) (hR : pz_Rt X cL_stop 9 (some .int) rm E) : ∀ lv st g c s, (zo_as 2 8 (zo_ic 1 (1) (zo_ri rm E))) 17 lv st g c s → pz_Z X 9 17 lv st g c s := (zs_astore hX dL_stop_17 (by decide) (zs_iconst hX dL_stop_19 (by decide) (zs_ri hR dL_stop_20)))
set_option maxRecDepth 20000 in
theorem bL_stop_21 {X : pz_C} {rm : Room} {E : Option pz_V → pz_H → Prop} (hX : pz_X X cL_stop 9 RL) (hR : pz_Rt X cL_stop 9 (some .int) rm E) : ∀ lv st g c s, (zo_as 2 8 (zo_ic 1 (2) (zo_ri rm E))) 21 lv st g c s → pz_Z X 9 21 lv st g c s := (zs_astore hX dL_stop_21 (by decide) (zs_iconst hX dL_stop_23 (by decide) (zs_ri hR dL_stop_24)))
set_option maxRecDepth 20000 in
theorem bL_stop_25 {X : pz_C} {rm : Room} {E : Option pz_V → pz_H → Prop} (hX : pz_X X cL_stop 9 RL) (hR : pz_Rt X cL_stop 9 (some .int) rm E) : ∀ lv st g c s, (zo_as 2 8 (zo_ic 1 (3) (zo_ri rm E))) 25 lv st g c s → pz_Z X 9 25 lv st g c s := (zs_astore hX dL_stop_25 (by decide) (zs_iconst hX dL_stop_27 (by decide) (zs_ri hR dL_stop_28)))
set_option maxRecDepth 20000 in
theorem bL_stop_29 {X : pz_C} {rm : Room} {E : Option pz_V → pz_H → Prop} (hX : pz_X X cL_stop 9 RL) (hR : pz_Rt X cL_stop 9 (some .int) rm E) : ∀ lv st g c s, (zo_ic 1 (0) (zo_ri rm E)) 29 lv st g c s → pz_Z X 9 29 lv st g c s := (zs_iconst hX dL_stop_29 (by decide) (zs_ri hR dL_stop_30))
def hhL_stop : List (Nat × Nat × Nat × Nat) := [(0, 14, 17, 21), (0, 14, 21, 13), (0, 14, 25, 15)]
def rm_L_stop : Room := { frames := 8, cells := 5, slots := 30, locals := 147 }
abbrev gt_L_stop : Type := gt_X9_stop × Nat × (Nat → Int64)
def pr_L_stop (sa md : Nat) : gt_L_stop → List pz_V → pz_H → Prop := fun (gk, out, fo) av g => ∃ avK, av = avK ++ [.inr (.inr (some (out)))] ∧ pr_X9_stop sa gk avK g ∧ (∃ h lb fs rs, avK = .inr (.inr (some (h))) :: rs ∧ g h = some (lb, .inr (11, fs))) ∧ g out = some ([17], ou_c fo)
def po_L_stop (sa md : Nat) : gt_L_stop → List pz_V → pz_H → Option pz_V → pz_H → Prop := fun (gk, out, fo) _ g v g' => (v = some (.inl 0) ∧ ∃ y g1 f', po_X9_stop sa gk [] g (some (.inl (y))) g1 ∧ g1 out = some ([17], ou_c fo) ∧ f' 0 = y.toInt64 ∧ g' = va_up g1 out (some ([17], ou_c f'))) ∨ ∃ E, px_X9_stop gk [] g E g' ∧ ((E = nIOB ∧ v = some (.inl 1)) ∨ (E = nIAE ∧ v = some (.inl 2)) ∨ (E = nUOE ∧ v = some (.inl 3)))
set_option maxRecDepth 20000 in
theorem ct_L_stop {G : pz_Gx} {sa md mi : Nat} (hOk : pz_O4 G sa md mi) (gh : gt_L_stop) : pz_MH G yL_stop cL_stop 9 (some .int) hhL_stop rm_L_stop (pr_L_stop sa md gh) (po_L_stop sa md gh) := by
  obtain ⟨gk, out, fo⟩ := gh
  refine pz_ofZH (by decide) hOk.1.1.1.1 rfl ?_ ?_
  · rintro av g ⟨avK, rfl, hp, -⟩
    obtain ⟨⟨h, x, p, a, b⟩, ⟨nt, wy, lv, tx⟩, ⟨ne, nz, nw⟩, ⟨la, pa, na, so, fd, Wa⟩, ⟨nl, L, U⟩⟩ := gk
    obtain ⟨rfl, -⟩ := hp
    exact Nat.le_of_ble_eq_true rfl
  · rintro X hX hGX hrm hTab av g ⟨avK, rfl, hp, ⟨h0, lb, fs, rs, e0, hc0⟩, hout⟩ hR
    obtain ⟨⟨h, x, p, a, b⟩, ⟨nt, wy, lv, tx⟩, ⟨ne, nz, nw⟩, ⟨la, pa, na, so, fd, Wa⟩, ⟨nl, L, U⟩⟩ := gk
    obtain ⟨rfl, -⟩ := id hp
    cases e0
    refine bL_stop_0 hX _ _ _ _ _ ?_
    refine bL_stop_9 hX hrm hGX hOk _ (by decide) _ _ _ _ _ ⟨Nat.le_of_ble_eq_true rfl, ⟨_, [.inl (x), .inl (p), .inr (.inl (a)), .inr (.inl (b))], lb, fs, rfl, hc0⟩, Nat.le_of_ble_eq_true rfl, Nat.le_of_ble_eq_true rfl, Nat.le_of_ble_eq_true rfl, hp, ?_, ?_⟩
    · intro E g2 hpx
      have hE : E = nIOB ∨ E = nIAE ∨ E = nUOE := by rcases id hpx with ⟨-, ⟨rfl, -⟩ | ⟨rfl, -⟩ | ⟨rfl, -⟩⟩ <;> simp
      rcases hE with rfl | rfl | rfl
      · refine zs_catch hX hGX hOk hTab (by simp) [] ⟨0, 14, 17, 21⟩ [⟨0, 14, 21, 13⟩, ⟨0, 14, 25, 15⟩] rfl (fun z hz => by cases hz) rfl (by decide) mw_c99be4d0 (fun q => ?_)
        exact bL_stop_17 hX hR _ _ _ _ _ ⟨Nat.le_of_ble_eq_true rfl, Nat.le_of_ble_eq_true rfl, Or.inr ⟨_, hpx, Or.inl ⟨rfl, rfl⟩⟩⟩
      · refine zs_catch hX hGX hOk hTab (by simp) [⟨0, 14, 17, 21⟩] ⟨0, 14, 21, 13⟩ [⟨0, 14, 25, 15⟩] rfl (fun z hz => by
        rcases List.mem_cons.mp hz with rfl | hz
        · exact ⟨by decide, _, mw_c99be4d0, fun U h => h.2.1⟩
        · cases hz) rfl (by decide) mw_b8a3b66c (fun q => ?_)
        exact bL_stop_21 hX hR _ _ _ _ _ ⟨Nat.le_of_ble_eq_true rfl, Nat.le_of_ble_eq_true rfl, Or.inr ⟨_, hpx, Or.inr (Or.inl ⟨rfl, rfl⟩)⟩⟩
      · refine zs_catch hX hGX hOk hTab (by simp) [⟨0, 14, 17, 21⟩, ⟨0, 14, 21, 13⟩] ⟨0, 14, 25, 15⟩ [] rfl (fun z hz => by
        rcases List.mem_cons.mp hz with rfl | hz
        · exact ⟨by decide, _, mw_c99be4d0, fun U h => h.2.2.1⟩
        · rcases List.mem_cons.mp hz with rfl | hz
          · exact ⟨by decide, _, mw_b8a3b66c, fun U h => h.2.2.2⟩
          · cases hz) rfl (by decide) mw_68ba39fd (fun q => ?_)
        exact bL_stop_25 hX hR _ _ _ _ _ ⟨Nat.le_of_ble_eq_true rfl, Nat.le_of_ble_eq_true rfl, Or.inr ⟨_, hpx, Or.inr (Or.inr ⟨rfl, rfl⟩)⟩⟩
    · intro v g2 hpo z hz
      subst hz
      have hout2 : g2 out = some ([17], ou_c fo) := by
        obtain ⟨-, -, k, P, A, B, -, -, -, -, -, -, -, -, -, hc⟩ := hpo
        rcases hc with ⟨-, -, e⟩ | ⟨-, -, hh, -⟩
        · rw [e]; exact hout
        · exact hh _ _ _ hout (by simp [lnS])
      refine ⟨_, _, _, hout2, ni_in (j := 0) (n := 1) (by omega) (by omega), ?_⟩
      exact bL_stop_29 hX hR _ _ _ _ _ ⟨Nat.le_of_ble_eq_true rfl, Nat.le_of_ble_eq_true rfl, Or.inl ⟨rfl, z, g2, _, hpo, hout2, rfl, rfl⟩⟩
set_option maxRecDepth 20000 in
theorem bL_exception_0 {X : pz_C} (hX : pz_X X cL_exception 7 RL) : ∀ lv st g c s, (zo_al 2 5 (zo_ic 1 (0) (zo_al 1 0 (zo_il 1 1 (zo_ll 1 2 (zo_il 2 4 (pz_Z X 7))))))) 0 lv st g c s → pz_Z X 7 0 lv st g c s := (zs_aload hX dL_exception_0 (zs_iconst hX dL_exception_2 (by decide) (zs_aload_n hX dL_exception_3 rfl (zs_iload_n hX dL_exception_4 rfl (zs_lload_n hX dL_exception_5 rfl (zs_iload hX dL_exception_6 (fun _ _ _ _ _ h => h)))))))
set_option maxRecDepth 20000 in
theorem bL_exception_8 {X : pz_C} {G : pz_Gx} {sa md mi : Nat} {rm : Room} (hX : pz_X X cL_exception 7 RL) (hrm : pz_rm X = rm) (hGX : pz_GX X G) (hOk : pz_O4 G sa md mi) (gh : gt_X9_exception) (hr_X9_exception : rm_X9_exception.frames + 1 ≤ rm.frames ∧ 8 + (7 + 11) + rm_X9_exception.locals ≤ rm.locals) : ∀ lv st g c s, (zo_cVX rm 11 3 3 rm_X9_exception.cells rm_X9_exception.slots (pr_X9_exception sa gh) (po_X9_exception sa gh) (px_X9_exception gh) (pz_ZX X 7) (zo_ki (zo_i2l (zo_last (zo_goto 28 (pz_Z X 7)))))) 8 lv st g c s → pz_Z X 7 8 lv st g c s := by
  subst hrm
  exact (zs_csVX hX hGX (C := RX9) (T := TX9) (N := 7) rfl (ct_X9_exception hOk.1 gh) mw_1bd6994f mw_90bc1879 mw_aee7d677 mw_8bb91264 mw_10c164ed (by decide +kernel) hr_X9_exception dL_exception_8 (fun _ _ _ _ _ _ _ h => h) (zs_ki (zs_i2l hX dL_exception_11 (zs_last hX dL_exception_12 (zs_goto hX dL_exception_13 (by decide) (fun _ _ _ _ _ _ h => h))))))
set_option maxRecDepth 20000 in
theorem bL_exception_16 {X : pz_C} {rm : Room} {E : Option pz_V → pz_H → Prop} (hX : pz_X X cL_exception 7 RL) (hR : pz_Rt X cL_exception 7 (some .int) rm E) : ∀ lv st g c s, (zo_as 2 6 (zo_ic 1 (1) (zo_ri rm E))) 16 lv st g c s → pz_Z X 7 16 lv st g c s := (zs_astore hX dL_exception_16 (by decide) (zs_iconst hX dL_exception_18 (by decide) (zs_ri hR dL_exception_19)))
set_option maxRecDepth 20000 in
theorem bL_exception_20 {X : pz_C} {rm : Room} {E : Option pz_V → pz_H → Prop} (hX : pz_X X cL_exception 7 RL) (hR : pz_Rt X cL_exception 7 (some .int) rm E) : ∀ lv st g c s, (zo_as 2 6 (zo_ic 1 (2) (zo_ri rm E))) 20 lv st g c s → pz_Z X 7 20 lv st g c s := (zs_astore hX dL_exception_20 (by decide) (zs_iconst hX dL_exception_22 (by decide) (zs_ri hR dL_exception_23)))
set_option maxRecDepth 20000 in
theorem bL_exception_24 {X : pz_C} {rm : Room} {E : Option pz_V → pz_H → Prop} (hX : pz_X X cL_exception 7 RL) (hR : pz_Rt X cL_exception 7 (some .int) rm E) : ∀ lv st g c s, (zo_as 2 6 (zo_ic 1 (3) (zo_ri rm E))) 24 lv st g c s → pz_Z X 7 24 lv st g c s := (zs_astore hX dL_exception_24 (by decide) (zs_iconst hX dL_exception_26 (by decide) (zs_ri hR dL_exception_27)))
set_option maxRecDepth 20000 in
theorem bL_exception_28 {X : pz_C} {rm : Room} {E : Option pz_V → pz_H → Prop} (hX : pz_X X cL_exception 7 RL) (hR : pz_Rt X cL_exception 7 (some .int) rm E) : ∀ lv st g c s, (zo_ic 1 (0) (zo_ri rm E)) 28 lv st g c s → pz_Z X 7 28 lv st g c s := (zs_iconst hX dL_exception_28 (by decide) (zs_ri hR dL_exception_29))
def hhL_exception : List (Nat × Nat × Nat × Nat) := [(0, 13, 16, 21), (0, 13, 20, 13), (0, 13, 24, 15)]
def rm_L_exception : Room := { frames := 8, cells := 4, slots := 21, locals := 146 }
abbrev gt_L_exception : Type := gt_X9_exception × Nat × (Nat → Int64)
def pr_L_exception (sa md : Nat) : gt_L_exception → List pz_V → pz_H → Prop := fun (gk, out, fo) av g => ∃ avK, av = avK ++ [.inr (.inr (some (out)))] ∧ pr_X9_exception sa gk avK g ∧ (∃ h lb fs rs, avK = .inr (.inr (some (h))) :: rs ∧ g h = some (lb, .inr (11, fs))) ∧ g out = some ([17], ou_c fo)
def po_L_exception (sa md : Nat) : gt_L_exception → List pz_V → pz_H → Option pz_V → pz_H → Prop := fun (gk, out, fo) _ g v g' => (v = some (.inl 0) ∧ ∃ y g1 f', po_X9_exception sa gk [] g (some (.inl (y))) g1 ∧ g1 out = some ([17], ou_c fo) ∧ f' 0 = y.toInt64 ∧ g' = va_up g1 out (some ([17], ou_c f'))) ∨ ∃ E, px_X9_exception gk [] g E g' ∧ ((E = nIOB ∧ v = some (.inl 1)) ∨ (E = nIAE ∧ v = some (.inl 2)) ∨ (E = nUOE ∧ v = some (.inl 3)))
set_option maxRecDepth 20000 in
theorem ct_L_exception {G : pz_Gx} {sa md mi : Nat} (hOk : pz_O4 G sa md mi) (gh : gt_L_exception) : pz_MH G yL_exception cL_exception 7 (some .int) hhL_exception rm_L_exception (pr_L_exception sa md gh) (po_L_exception sa md gh) := by
  obtain ⟨gk, out, fo⟩ := gh
  refine pz_ofZH (by decide) hOk.1.1.1.1 rfl ?_ ?_
  · rintro av g ⟨avK, rfl, hp, -⟩
    obtain ⟨⟨h, x, a, b⟩, ⟨nt, wy, lv, tx⟩, ⟨ne, nz, nw⟩, ⟨la, pa, na, so, fd, Wa⟩, ⟨nl, L, U⟩⟩ := gk
    obtain ⟨rfl, -⟩ := hp
    exact Nat.le_of_ble_eq_true rfl
  · rintro X hX hGX hrm hTab av g ⟨avK, rfl, hp, ⟨h0, lb, fs, rs, e0, hc0⟩, hout⟩ hR
    obtain ⟨⟨h, x, a, b⟩, ⟨nt, wy, lv, tx⟩, ⟨ne, nz, nw⟩, ⟨la, pa, na, so, fd, Wa⟩, ⟨nl, L, U⟩⟩ := gk
    obtain ⟨rfl, -⟩ := id hp
    cases e0
    refine bL_exception_0 hX _ _ _ _ _ ?_
    refine bL_exception_8 hX hrm hGX hOk _ (by decide) _ _ _ _ _ ⟨Nat.le_of_ble_eq_true rfl, ⟨_, [.inl (x), .inr (.inl (a)), .inl (b)], lb, fs, rfl, hc0⟩, Nat.le_of_ble_eq_true rfl, Nat.le_of_ble_eq_true rfl, Nat.le_of_ble_eq_true rfl, hp, ?_, ?_⟩
    · intro E g2 hpx
      have hE : E = nIOB ∨ E = nIAE ∨ E = nUOE := by rcases id hpx with ⟨-, ⟨rfl, -⟩ | ⟨rfl, -⟩ | ⟨rfl, -⟩⟩ <;> simp
      rcases hE with rfl | rfl | rfl
      · refine zs_catch hX hGX hOk hTab (by simp) [] ⟨0, 13, 16, 21⟩ [⟨0, 13, 20, 13⟩, ⟨0, 13, 24, 15⟩] rfl (fun z hz => by cases hz) rfl (by decide) mw_c99be4d0 (fun q => ?_)
        exact bL_exception_16 hX hR _ _ _ _ _ ⟨Nat.le_of_ble_eq_true rfl, Nat.le_of_ble_eq_true rfl, Or.inr ⟨_, hpx, Or.inl ⟨rfl, rfl⟩⟩⟩
      · refine zs_catch hX hGX hOk hTab (by simp) [⟨0, 13, 16, 21⟩] ⟨0, 13, 20, 13⟩ [⟨0, 13, 24, 15⟩] rfl (fun z hz => by
        rcases List.mem_cons.mp hz with rfl | hz
        · exact ⟨by decide, _, mw_c99be4d0, fun U h => h.2.1⟩
        · cases hz) rfl (by decide) mw_b8a3b66c (fun q => ?_)
        exact bL_exception_20 hX hR _ _ _ _ _ ⟨Nat.le_of_ble_eq_true rfl, Nat.le_of_ble_eq_true rfl, Or.inr ⟨_, hpx, Or.inr (Or.inl ⟨rfl, rfl⟩)⟩⟩
      · refine zs_catch hX hGX hOk hTab (by simp) [⟨0, 13, 16, 21⟩, ⟨0, 13, 20, 13⟩] ⟨0, 13, 24, 15⟩ [] rfl (fun z hz => by
        rcases List.mem_cons.mp hz with rfl | hz
        · exact ⟨by decide, _, mw_c99be4d0, fun U h => h.2.2.1⟩
        · rcases List.mem_cons.mp hz with rfl | hz
          · exact ⟨by decide, _, mw_b8a3b66c, fun U h => h.2.2.2⟩
          · cases hz) rfl (by decide) mw_68ba39fd (fun q => ?_)
        exact bL_exception_24 hX hR _ _ _ _ _ ⟨Nat.le_of_ble_eq_true rfl, Nat.le_of_ble_eq_true rfl, Or.inr ⟨_, hpx, Or.inr (Or.inr ⟨rfl, rfl⟩)⟩⟩
    · intro v g2 hpo z hz
      subst hz
      have hout2 : g2 out = some ([17], ou_c fo) := by
        obtain ⟨-, -, k, D, -, -, -, -, -, -, hh, -⟩ := hpo
        exact hh _ _ _ hout (by simp)
      refine ⟨_, _, _, hout2, ni_in (j := 0) (n := 1) (by omega) (by omega), ?_⟩
      exact bL_exception_28 hX hR _ _ _ _ _ ⟨Nat.le_of_ble_eq_true rfl, Nat.le_of_ble_eq_true rfl, Or.inl ⟨rfl, z, g2, _, hpo, hout2, rfl, rfl⟩⟩
set_option maxRecDepth 20000 in
theorem bL_zone_0 {X : pz_C} (hX : pz_X X cL_zone 7 RL) : ∀ lv st g c s, (zo_al 2 5 (zo_ic 1 (0) (zo_al 1 0 (zo_il 1 1 (zo_ll 1 2 (zo_il 2 4 (pz_Z X 7))))))) 0 lv st g c s → pz_Z X 7 0 lv st g c s := (zs_aload hX dL_zone_0 (zs_iconst hX dL_zone_2 (by decide) (zs_aload_n hX dL_zone_3 rfl (zs_iload_n hX dL_zone_4 rfl (zs_lload_n hX dL_zone_5 rfl (zs_iload hX dL_zone_6 (fun _ _ _ _ _ h => h)))))))
set_option maxRecDepth 20000 in
theorem bL_zone_8 {X : pz_C} {G : pz_Gx} {sa md mi : Nat} {rm : Room} (hX : pz_X X cL_zone 7 RL) (hrm : pz_rm X = rm) (hGX : pz_GX X G) (hOk : pz_O4 G sa md mi) (gh : gt_X9_zone) (hr_X9_zone : rm_X9_zone.frames + 1 ≤ rm.frames ∧ 8 + (7 + 11) + rm_X9_zone.locals ≤ rm.locals) : ∀ lv st g c s, (zo_cVX rm 11 3 3 rm_X9_zone.cells rm_X9_zone.slots (pr_X9_zone gh) (po_X9_zone gh) (px_X9_zone gh) (pz_ZX X 7) (zo_ki (zo_i2l (zo_last (zo_goto 28 (pz_Z X 7)))))) 8 lv st g c s → pz_Z X 7 8 lv st g c s := by
  subst hrm
  exact (zs_csVX hX hGX (C := RX9) (T := TX9) (N := 7) rfl (ct_X9_zone hOk.1 gh) mw_674f04e3 mw_d7180d2a mw_150b419c mw_8bb91264 mw_9a4a1f13 (by decide +kernel) hr_X9_zone dL_zone_8 (fun _ _ _ _ _ _ _ h => h) (zs_ki (zs_i2l hX dL_zone_11 (zs_last hX dL_zone_12 (zs_goto hX dL_zone_13 (by decide) (fun _ _ _ _ _ _ h => h))))))
set_option maxRecDepth 20000 in
theorem bL_zone_16 {X : pz_C} {rm : Room} {E : Option pz_V → pz_H → Prop} (hX : pz_X X cL_zone 7 RL) (hR : pz_Rt X cL_zone 7 (some .int) rm E) : ∀ lv st g c s, (zo_as 2 6 (zo_ic 1 (1) (zo_ri rm E))) 16 lv st g c s → pz_Z X 7 16 lv st g c s := (zs_astore hX dL_zone_16 (by decide) (zs_iconst hX dL_zone_18 (by decide) (zs_ri hR dL_zone_19)))
set_option maxRecDepth 20000 in
theorem bL_zone_20 {X : pz_C} {rm : Room} {E : Option pz_V → pz_H → Prop} (hX : pz_X X cL_zone 7 RL) (hR : pz_Rt X cL_zone 7 (some .int) rm E) : ∀ lv st g c s, (zo_as 2 6 (zo_ic 1 (2) (zo_ri rm E))) 20 lv st g c s → pz_Z X 7 20 lv st g c s := (zs_astore hX dL_zone_20 (by decide) (zs_iconst hX dL_zone_22 (by decide) (zs_ri hR dL_zone_23)))
set_option maxRecDepth 20000 in
theorem bL_zone_24 {X : pz_C} {rm : Room} {E : Option pz_V → pz_H → Prop} (hX : pz_X X cL_zone 7 RL) (hR : pz_Rt X cL_zone 7 (some .int) rm E) : ∀ lv st g c s, (zo_as 2 6 (zo_ic 1 (3) (zo_ri rm E))) 24 lv st g c s → pz_Z X 7 24 lv st g c s := (zs_astore hX dL_zone_24 (by decide) (zs_iconst hX dL_zone_26 (by decide) (zs_ri hR dL_zone_27)))
set_option maxRecDepth 20000 in
theorem bL_zone_28 {X : pz_C} {rm : Room} {E : Option pz_V → pz_H → Prop} (hX : pz_X X cL_zone 7 RL) (hR : pz_Rt X cL_zone 7 (some .int) rm E) : ∀ lv st g c s, (zo_ic 1 (0) (zo_ri rm E)) 28 lv st g c s → pz_Z X 7 28 lv st g c s := (zs_iconst hX dL_zone_28 (by decide) (zs_ri hR dL_zone_29))
def hhL_zone : List (Nat × Nat × Nat × Nat) := [(0, 13, 16, 21), (0, 13, 20, 13), (0, 13, 24, 15)]
def rm_L_zone : Room := { frames := 8, cells := 5, slots := 27, locals := 133 }
abbrev gt_L_zone : Type := gt_X9_zone × Nat × (Nat → Int64)
def pr_L_zone (sa md : Nat) : gt_L_zone → List pz_V → pz_H → Prop := fun (gk, out, fo) av g => ∃ avK, av = avK ++ [.inr (.inr (some (out)))] ∧ pr_X9_zone gk avK g ∧ (∃ h lb fs rs, avK = .inr (.inr (some (h))) :: rs ∧ g h = some (lb, .inr (11, fs))) ∧ g out = some ([17], ou_c fo)
def po_L_zone (sa md : Nat) : gt_L_zone → List pz_V → pz_H → Option pz_V → pz_H → Prop := fun (gk, out, fo) _ g v g' => (v = some (.inl 0) ∧ ∃ y g1 f', po_X9_zone gk [] g (some (.inl (y))) g1 ∧ g1 out = some ([17], ou_c fo) ∧ f' 0 = y.toInt64 ∧ g' = va_up g1 out (some ([17], ou_c f'))) ∨ ∃ E, px_X9_zone gk [] g E g' ∧ ((E = nIOB ∧ v = some (.inl 1)) ∨ (E = nIAE ∧ v = some (.inl 2)) ∨ (E = nUOE ∧ v = some (.inl 3)))
set_option maxRecDepth 20000 in
theorem ct_L_zone {G : pz_Gx} {sa md mi : Nat} (hOk : pz_O4 G sa md mi) (gh : gt_L_zone) : pz_MH G yL_zone cL_zone 7 (some .int) hhL_zone rm_L_zone (pr_L_zone sa md gh) (po_L_zone sa md gh) := by
  obtain ⟨gk, out, fo⟩ := gh
  refine pz_ofZH (by decide) hOk.1.1.1.1 rfl ?_ ?_
  · rintro av g ⟨avK, rfl, hp, -⟩
    obtain ⟨⟨h, p, f, x⟩, ⟨nt, wy, lv, tx⟩, ⟨ne, nz, nw⟩, ⟨la, pa, na, so, fd, Wa⟩, ⟨fp, Z, N, C⟩⟩ := gk
    obtain ⟨rfl, -⟩ := hp
    exact Nat.le_of_ble_eq_true rfl
  · rintro X hX hGX hrm hTab av g ⟨avK, rfl, hp, ⟨h0, lb, fs, rs, e0, hc0⟩, hout⟩ hR
    obtain ⟨⟨h, p, f, x⟩, ⟨nt, wy, lv, tx⟩, ⟨ne, nz, nw⟩, ⟨la, pa, na, so, fd, Wa⟩, ⟨fp, Z, N, C⟩⟩ := gk
    obtain ⟨rfl, -⟩ := id hp
    cases e0
    refine bL_zone_0 hX _ _ _ _ _ ?_
    refine bL_zone_8 hX hrm hGX hOk _ (by decide) _ _ _ _ _ ⟨Nat.le_of_ble_eq_true rfl, ⟨_, [.inl (p), .inr (.inl (f)), .inl (x)], lb, fs, rfl, hc0⟩, Nat.le_of_ble_eq_true rfl, Nat.le_of_ble_eq_true rfl, Nat.le_of_ble_eq_true rfl, hp, ?_, ?_⟩
    · intro E g2 hpx
      have hE : E = nIOB ∨ E = nIAE ∨ E = nUOE := by rcases id hpx with ⟨-, ⟨rfl, -⟩ | ⟨rfl, -⟩ | ⟨rfl, -⟩⟩ <;> simp
      rcases hE with rfl | rfl | rfl
      · refine zs_catch hX hGX hOk hTab (by simp) [] ⟨0, 13, 16, 21⟩ [⟨0, 13, 20, 13⟩, ⟨0, 13, 24, 15⟩] rfl (fun z hz => by cases hz) rfl (by decide) mw_c99be4d0 (fun q => ?_)
        exact bL_zone_16 hX hR _ _ _ _ _ ⟨Nat.le_of_ble_eq_true rfl, Nat.le_of_ble_eq_true rfl, Or.inr ⟨_, hpx, Or.inl ⟨rfl, rfl⟩⟩⟩
      · refine zs_catch hX hGX hOk hTab (by simp) [⟨0, 13, 16, 21⟩] ⟨0, 13, 20, 13⟩ [⟨0, 13, 24, 15⟩] rfl (fun z hz => by
        rcases List.mem_cons.mp hz with rfl | hz
        · exact ⟨by decide, _, mw_c99be4d0, fun U h => h.2.1⟩
        · cases hz) rfl (by decide) mw_b8a3b66c (fun q => ?_)
        exact bL_zone_20 hX hR _ _ _ _ _ ⟨Nat.le_of_ble_eq_true rfl, Nat.le_of_ble_eq_true rfl, Or.inr ⟨_, hpx, Or.inr (Or.inl ⟨rfl, rfl⟩)⟩⟩
      · refine zs_catch hX hGX hOk hTab (by simp) [⟨0, 13, 16, 21⟩, ⟨0, 13, 20, 13⟩] ⟨0, 13, 24, 15⟩ [] rfl (fun z hz => by
        rcases List.mem_cons.mp hz with rfl | hz
        · exact ⟨by decide, _, mw_c99be4d0, fun U h => h.2.2.1⟩
        · rcases List.mem_cons.mp hz with rfl | hz
          · exact ⟨by decide, _, mw_b8a3b66c, fun U h => h.2.2.2⟩
          · cases hz) rfl (by decide) mw_68ba39fd (fun q => ?_)
        exact bL_zone_24 hX hR _ _ _ _ _ ⟨Nat.le_of_ble_eq_true rfl, Nat.le_of_ble_eq_true rfl, Or.inr ⟨_, hpx, Or.inr (Or.inr ⟨rfl, rfl⟩)⟩⟩
    · intro v g2 hpo z hz
      subst hz
      have hout2 : g2 out = some ([17], ou_c fo) := by
        obtain ⟨-, k, F, -, -, -, -, hh, -⟩ := hpo
        exact hh _ _ _ hout (by simp)
      refine ⟨_, _, _, hout2, ni_in (j := 0) (n := 1) (by omega) (by omega), ?_⟩
      exact bL_zone_28 hX hR _ _ _ _ _ ⟨Nat.le_of_ble_eq_true rfl, Nat.le_of_ble_eq_true rfl, Or.inl ⟨rfl, z, g2, _, hpo, hout2, rfl, rfl⟩⟩
set_option maxRecDepth 20000 in
theorem bL_least_0 {X : pz_C} (hX : pz_X X cL_least 6 RL) : ∀ lv st g c s, (zo_al 2 4 (zo_ic 1 (0) (zo_al 1 0 (zo_il 1 1 (zo_ll 1 2 (pz_Z X 6)))))) 0 lv st g c s → pz_Z X 6 0 lv st g c s := (zs_aload hX dL_least_0 (zs_iconst hX dL_least_2 (by decide) (zs_aload_n hX dL_least_3 rfl (zs_iload_n hX dL_least_4 rfl (zs_lload_n hX dL_least_5 rfl (fun _ _ _ _ _ h => h))))))
set_option maxRecDepth 20000 in
theorem bL_least_6 {X : pz_C} {G : pz_Gx} {sa md mi : Nat} {rm : Room} (hX : pz_X X cL_least 6 RL) (hrm : pz_rm X = rm) (hGX : pz_GX X G) (hOk : pz_O4 G sa md mi) (gh : gt_X9_least) (hr_X9_least : rm_X9_least.frames + 1 ≤ rm.frames ∧ 8 + (6 + 11) + rm_X9_least.locals ≤ rm.locals) : ∀ lv st g c s, (zo_cVX rm 11 2 3 rm_X9_least.cells rm_X9_least.slots (pr_X9_least gh) (po_X9_least gh) (px_X9_least gh) (pz_ZX X 6) (zo_ki (zo_i2l (zo_last (zo_goto 22 (pz_Z X 6)))))) 6 lv st g c s → pz_Z X 6 6 lv st g c s := by
  subst hrm
  exact (zs_csVX hX hGX (C := RX9) (T := TX9) (N := 7) rfl (ct_X9_least hOk.1 gh) mw_a4ee420d mw_b6a65bcd mw_f8d8c1fd mw_8bb91264 mw_98b44b7e (by decide +kernel) hr_X9_least dL_least_6 (fun _ _ _ _ _ _ _ h => h) (zs_ki (zs_i2l hX dL_least_9 (zs_last hX dL_least_10 (zs_goto hX dL_least_11 (by decide) (fun _ _ _ _ _ _ h => h))))))
set_option maxRecDepth 20000 in
theorem bL_least_14 {X : pz_C} {rm : Room} {E : Option pz_V → pz_H → Prop} (hX : pz_X X cL_least 6 RL) (hR : pz_Rt X cL_least 6 (some .int) rm E) : ∀ lv st g c s, (zo_as 2 5 (zo_ic 1 (1) (zo_ri rm E))) 14 lv st g c s → pz_Z X 6 14 lv st g c s := (zs_astore hX dL_least_14 (by decide) (zs_iconst hX dL_least_16 (by decide) (zs_ri hR dL_least_17)))
set_option maxRecDepth 20000 in
theorem bL_least_18 {X : pz_C} {rm : Room} {E : Option pz_V → pz_H → Prop} (hX : pz_X X cL_least 6 RL) (hR : pz_Rt X cL_least 6 (some .int) rm E) : ∀ lv st g c s, (zo_as 2 5 (zo_ic 1 (2) (zo_ri rm E))) 18 lv st g c s → pz_Z X 6 18 lv st g c s := (zs_astore hX dL_least_18 (by decide) (zs_iconst hX dL_least_20 (by decide) (zs_ri hR dL_least_21)))
set_option maxRecDepth 20000 in
theorem bL_least_22 {X : pz_C} {rm : Room} {E : Option pz_V → pz_H → Prop} (hX : pz_X X cL_least 6 RL) (hR : pz_Rt X cL_least 6 (some .int) rm E) : ∀ lv st g c s, (zo_ic 1 (0) (zo_ri rm E)) 22 lv st g c s → pz_Z X 6 22 lv st g c s := (zs_iconst hX dL_least_22 (by decide) (zs_ri hR dL_least_23))
def hhL_least : List (Nat × Nat × Nat × Nat) := [(0, 11, 14, 21), (0, 11, 18, 13)]
def rm_L_least : Room := { frames := 8, cells := 2, slots := 12, locals := 132 }
abbrev gt_L_least : Type := gt_X9_least × Nat × (Nat → Int64)
def pr_L_least (sa md : Nat) : gt_L_least → List pz_V → pz_H → Prop := fun (gk, out, fo) av g => ∃ avK, av = avK ++ [.inr (.inr (some (out)))] ∧ pr_X9_least gk avK g ∧ (∃ h lb fs rs, avK = .inr (.inr (some (h))) :: rs ∧ g h = some (lb, .inr (11, fs))) ∧ g out = some ([17], ou_c fo)
def po_L_least (sa md : Nat) : gt_L_least → List pz_V → pz_H → Option pz_V → pz_H → Prop := fun (gk, out, fo) _ g v g' => (v = some (.inl 0) ∧ ∃ y g1 f', po_X9_least gk [] g (some (.inl (y))) g1 ∧ g1 out = some ([17], ou_c fo) ∧ f' 0 = y.toInt64 ∧ g' = va_up g1 out (some ([17], ou_c f'))) ∨ ∃ E, px_X9_least gk [] g E g' ∧ ((E = nIOB ∧ v = some (.inl 1)) ∨ (E = nIAE ∧ v = some (.inl 2)))
set_option maxRecDepth 20000 in
theorem ct_L_least {G : pz_Gx} {sa md mi : Nat} (hOk : pz_O4 G sa md mi) (gh : gt_L_least) : pz_MH G yL_least cL_least 6 (some .int) hhL_least rm_L_least (pr_L_least sa md gh) (po_L_least sa md gh) := by
  obtain ⟨gk, out, fo⟩ := gh
  refine pz_ofZH (by decide) hOk.1.1.1.1 rfl ?_ ?_
  · rintro av g ⟨avK, rfl, hp, -⟩
    obtain ⟨⟨h, p, x⟩, ⟨nt, wy, lv, tx⟩, ⟨ne, nz, nw⟩, ⟨la, pa, na, so, fd, Wa⟩, ⟨fp, Z, N, C⟩⟩ := gk
    obtain ⟨rfl, -⟩ := hp
    exact Nat.le_of_ble_eq_true rfl
  · rintro X hX hGX hrm hTab av g ⟨avK, rfl, hp, ⟨h0, lb, fs, rs, e0, hc0⟩, hout⟩ hR
    obtain ⟨⟨h, p, x⟩, ⟨nt, wy, lv, tx⟩, ⟨ne, nz, nw⟩, ⟨la, pa, na, so, fd, Wa⟩, ⟨fp, Z, N, C⟩⟩ := gk
    obtain ⟨rfl, -⟩ := id hp
    cases e0
    refine bL_least_0 hX _ _ _ _ _ ?_
    refine bL_least_6 hX hrm hGX hOk _ (by decide) _ _ _ _ _ ⟨Nat.le_of_ble_eq_true rfl, ⟨_, [.inl (p), .inr (.inl (x))], lb, fs, rfl, hc0⟩, Nat.le_of_ble_eq_true rfl, Nat.le_of_ble_eq_true rfl, Nat.le_of_ble_eq_true rfl, hp, ?_, ?_⟩
    · intro E g2 hpx
      have hE : E = nIOB ∨ E = nIAE := by rcases id hpx with ⟨-, ⟨rfl, -⟩ | ⟨rfl, -⟩⟩ <;> simp
      rcases hE with rfl | rfl
      · refine zs_catch hX hGX hOk hTab (by simp) [] ⟨0, 11, 14, 21⟩ [⟨0, 11, 18, 13⟩] rfl (fun z hz => by cases hz) rfl (by decide) mw_c99be4d0 (fun q => ?_)
        exact bL_least_14 hX hR _ _ _ _ _ ⟨Nat.le_of_ble_eq_true rfl, Nat.le_of_ble_eq_true rfl, Or.inr ⟨_, hpx, Or.inl ⟨rfl, rfl⟩⟩⟩
      · refine zs_catch hX hGX hOk hTab (by simp) [⟨0, 11, 14, 21⟩] ⟨0, 11, 18, 13⟩ [] rfl (fun z hz => by
        rcases List.mem_cons.mp hz with rfl | hz
        · exact ⟨by decide, _, mw_c99be4d0, fun U h => h.2.1⟩
        · cases hz) rfl (by decide) mw_b8a3b66c (fun q => ?_)
        exact bL_least_18 hX hR _ _ _ _ _ ⟨Nat.le_of_ble_eq_true rfl, Nat.le_of_ble_eq_true rfl, Or.inr ⟨_, hpx, Or.inr ⟨rfl, rfl⟩⟩⟩
    · intro v g2 hpo z hz
      subst hz
      have hout2 : g2 out = some ([17], ou_c fo) := by
        obtain ⟨k, -, -, -, -, hh, -⟩ := hpo
        exact hh _ _ _ hout (by simp)
      refine ⟨_, _, _, hout2, ni_in (j := 0) (n := 1) (by omega) (by omega), ?_⟩
      exact bL_least_22 hX hR _ _ _ _ _ ⟨Nat.le_of_ble_eq_true rfl, Nat.le_of_ble_eq_true rfl, Or.inl ⟨rfl, z, g2, _, hpo, hout2, rfl, rfl⟩⟩
set_option maxRecDepth 20000 in
theorem bL_change_0 {X : pz_C} (hX : pz_X X cL_change 9 RL) : ∀ lv st g c s, (zo_al 2 7 (zo_ic 1 (0) (zo_al 1 0 (zo_il 1 1 (zo_il 1 2 (zo_ll 1 3 (zo_ll 2 5 (pz_Z X 9)))))))) 0 lv st g c s → pz_Z X 9 0 lv st g c s := (zs_aload hX dL_change_0 (zs_iconst hX dL_change_2 (by decide) (zs_aload_n hX dL_change_3 rfl (zs_iload_n hX dL_change_4 rfl (zs_iload_n hX dL_change_5 rfl (zs_lload_n hX dL_change_6 rfl (zs_lload hX dL_change_7 (fun _ _ _ _ _ h => h))))))))
set_option maxRecDepth 20000 in
theorem bL_change_9 {X : pz_C} {G : pz_Gx} {sa md mi : Nat} {rm : Room} (hX : pz_X X cL_change 9 RL) (hrm : pz_rm X = rm) (hGX : pz_GX X G) (hOk : pz_O4 G sa md mi) (gh : gt_X9_change) (hr_X9_change : rm_X9_change.frames + 1 ≤ rm.frames ∧ 8 + (8 + 11) + rm_X9_change.locals ≤ rm.locals) : ∀ lv st g c s, (zo_cVX rm 11 4 3 rm_X9_change.cells rm_X9_change.slots (pr_X9_change sa gh) (po_X9_change sa gh) (px_X9_change gh) (pz_ZX X 9) (zo_ki (zo_i2l (zo_last (zo_goto 29 (pz_Z X 9)))))) 9 lv st g c s → pz_Z X 9 9 lv st g c s := by
  subst hrm
  exact (zs_csVX hX hGX (C := RX9) (T := TX9) (N := 7) rfl (ct_X9_change hOk.1 gh) mw_d6c86b5c mw_74fcb1c4 mw_6c806c75 mw_8bb91264 mw_4cb96bae (by decide +kernel) hr_X9_change dL_change_9 (fun _ _ _ _ _ _ _ h => h) (zs_ki (zs_i2l hX dL_change_12 (zs_last hX dL_change_13 (zs_goto hX dL_change_14 (by decide) (fun _ _ _ _ _ _ h => h))))))
set_option maxRecDepth 20000 in
theorem bL_change_17 {X : pz_C} {rm : Room} {E : Option pz_V → pz_H → Prop} (hX : pz_X X cL_change 9 RL) (hR : pz_Rt X cL_change 9 (some .int) rm E) : ∀ lv st g c s, (zo_as 2 8 (zo_ic 1 (1) (zo_ri rm E))) 17 lv st g c s → pz_Z X 9 17 lv st g c s := (zs_astore hX dL_change_17 (by decide) (zs_iconst hX dL_change_19 (by decide) (zs_ri hR dL_change_20)))
set_option maxRecDepth 20000 in
theorem bL_change_21 {X : pz_C} {rm : Room} {E : Option pz_V → pz_H → Prop} (hX : pz_X X cL_change 9 RL) (hR : pz_Rt X cL_change 9 (some .int) rm E) : ∀ lv st g c s, (zo_as 2 8 (zo_ic 1 (2) (zo_ri rm E))) 21 lv st g c s → pz_Z X 9 21 lv st g c s := (zs_astore hX dL_change_21 (by decide) (zs_iconst hX dL_change_23 (by decide) (zs_ri hR dL_change_24)))
set_option maxRecDepth 20000 in
theorem bL_change_25 {X : pz_C} {rm : Room} {E : Option pz_V → pz_H → Prop} (hX : pz_X X cL_change 9 RL) (hR : pz_Rt X cL_change 9 (some .int) rm E) : ∀ lv st g c s, (zo_as 2 8 (zo_ic 1 (3) (zo_ri rm E))) 25 lv st g c s → pz_Z X 9 25 lv st g c s := (zs_astore hX dL_change_25 (by decide) (zs_iconst hX dL_change_27 (by decide) (zs_ri hR dL_change_28)))
set_option maxRecDepth 20000 in
theorem bL_change_29 {X : pz_C} {rm : Room} {E : Option pz_V → pz_H → Prop} (hX : pz_X X cL_change 9 RL) (hR : pz_Rt X cL_change 9 (some .int) rm E) : ∀ lv st g c s, (zo_ic 1 (0) (zo_ri rm E)) 29 lv st g c s → pz_Z X 9 29 lv st g c s := (zs_iconst hX dL_change_29 (by decide) (zs_ri hR dL_change_30))
def hhL_change : List (Nat × Nat × Nat × Nat) := [(0, 14, 17, 21), (0, 14, 21, 13), (0, 14, 25, 15)]
def rm_L_change : Room := { frames := 8, cells := 6, slots := 34, locals := 147 }
abbrev gt_L_change : Type := gt_X9_change × Nat × (Nat → Int64)
def pr_L_change (sa md : Nat) : gt_L_change → List pz_V → pz_H → Prop := fun (gk, out, fo) av g => ∃ avK, av = avK ++ [.inr (.inr (some (out)))] ∧ pr_X9_change sa gk avK g ∧ (∃ h lb fs rs, avK = .inr (.inr (some (h))) :: rs ∧ g h = some (lb, .inr (11, fs))) ∧ g out = some ([17], ou_c fo)
def po_L_change (sa md : Nat) : gt_L_change → List pz_V → pz_H → Option pz_V → pz_H → Prop := fun (gk, out, fo) _ g v g' => (v = some (.inl 0) ∧ ∃ y g1 f', po_X9_change sa gk [] g (some (.inl (y))) g1 ∧ g1 out = some ([17], ou_c fo) ∧ f' 0 = y.toInt64 ∧ g' = va_up g1 out (some ([17], ou_c f'))) ∨ ∃ E, px_X9_change gk [] g E g' ∧ ((E = nIOB ∧ v = some (.inl 1)) ∨ (E = nIAE ∧ v = some (.inl 2)) ∨ (E = nUOE ∧ v = some (.inl 3)))
set_option maxRecDepth 20000 in
theorem ct_L_change {G : pz_Gx} {sa md mi : Nat} (hOk : pz_O4 G sa md mi) (gh : gt_L_change) : pz_MH G yL_change cL_change 9 (some .int) hhL_change rm_L_change (pr_L_change sa md gh) (po_L_change sa md gh) := by
  obtain ⟨gk, out, fo⟩ := gh
  refine pz_ofZH (by decide) hOk.1.1.1.1 rfl ?_ ?_
  · rintro av g ⟨avK, rfl, hp, -⟩
    obtain ⟨⟨h, x, p, a, b⟩, ⟨nt, wy, lv, tx⟩, ⟨ne, nz, nw⟩, ⟨la, pa, na, so, fd, Wa⟩, ⟨nl, L, U⟩⟩ := gk
    obtain ⟨rfl, -⟩ := hp
    exact Nat.le_of_ble_eq_true rfl
  · rintro X hX hGX hrm hTab av g ⟨avK, rfl, hp, ⟨h0, lb, fs, rs, e0, hc0⟩, hout⟩ hR
    obtain ⟨⟨h, x, p, a, b⟩, ⟨nt, wy, lv, tx⟩, ⟨ne, nz, nw⟩, ⟨la, pa, na, so, fd, Wa⟩, ⟨nl, L, U⟩⟩ := gk
    obtain ⟨rfl, -⟩ := id hp
    cases e0
    refine bL_change_0 hX _ _ _ _ _ ?_
    refine bL_change_9 hX hrm hGX hOk _ (by decide) _ _ _ _ _ ⟨Nat.le_of_ble_eq_true rfl, ⟨_, [.inl (x), .inl (p), .inr (.inl (a)), .inr (.inl (b))], lb, fs, rfl, hc0⟩, Nat.le_of_ble_eq_true rfl, Nat.le_of_ble_eq_true rfl, Nat.le_of_ble_eq_true rfl, hp, ?_, ?_⟩
    · intro E g2 hpx
      have hE : E = nIOB ∨ E = nIAE ∨ E = nUOE := by rcases id hpx with ⟨-, ⟨rfl, -⟩ | ⟨rfl, -⟩ | ⟨rfl, -⟩⟩ <;> simp
      rcases hE with rfl | rfl | rfl
      · refine zs_catch hX hGX hOk hTab (by simp) [] ⟨0, 14, 17, 21⟩ [⟨0, 14, 21, 13⟩, ⟨0, 14, 25, 15⟩] rfl (fun z hz => by cases hz) rfl (by decide) mw_c99be4d0 (fun q => ?_)
        exact bL_change_17 hX hR _ _ _ _ _ ⟨Nat.le_of_ble_eq_true rfl, Nat.le_of_ble_eq_true rfl, Or.inr ⟨_, hpx, Or.inl ⟨rfl, rfl⟩⟩⟩
      · refine zs_catch hX hGX hOk hTab (by simp) [⟨0, 14, 17, 21⟩] ⟨0, 14, 21, 13⟩ [⟨0, 14, 25, 15⟩] rfl (fun z hz => by
        rcases List.mem_cons.mp hz with rfl | hz
        · exact ⟨by decide, _, mw_c99be4d0, fun U h => h.2.1⟩
        · cases hz) rfl (by decide) mw_b8a3b66c (fun q => ?_)
        exact bL_change_21 hX hR _ _ _ _ _ ⟨Nat.le_of_ble_eq_true rfl, Nat.le_of_ble_eq_true rfl, Or.inr ⟨_, hpx, Or.inr (Or.inl ⟨rfl, rfl⟩)⟩⟩
      · refine zs_catch hX hGX hOk hTab (by simp) [⟨0, 14, 17, 21⟩, ⟨0, 14, 21, 13⟩] ⟨0, 14, 25, 15⟩ [] rfl (fun z hz => by
        rcases List.mem_cons.mp hz with rfl | hz
        · exact ⟨by decide, _, mw_c99be4d0, fun U h => h.2.2.1⟩
        · rcases List.mem_cons.mp hz with rfl | hz
          · exact ⟨by decide, _, mw_b8a3b66c, fun U h => h.2.2.2⟩
          · cases hz) rfl (by decide) mw_68ba39fd (fun q => ?_)
        exact bL_change_25 hX hR _ _ _ _ _ ⟨Nat.le_of_ble_eq_true rfl, Nat.le_of_ble_eq_true rfl, Or.inr ⟨_, hpx, Or.inr (Or.inr ⟨rfl, rfl⟩)⟩⟩
    · intro v g2 hpo z hz
      subst hz
      have hout2 : g2 out = some ([17], ou_c fo) := by
        obtain ⟨-, -, -, k, s, B, D, -, -, -, -, -, -, -, -, -, hh, -⟩ := hpo
        exact hh _ _ _ hout (by simp)
      refine ⟨_, _, _, hout2, ni_in (j := 0) (n := 1) (by omega) (by omega), ?_⟩
      exact bL_change_29 hX hR _ _ _ _ _ ⟨Nat.le_of_ble_eq_true rfl, Nat.le_of_ble_eq_true rfl, Or.inl ⟨rfl, z, g2, _, hpo, hout2, rfl, rfl⟩⟩
set_option maxRecDepth 20000 in
theorem bL_earliest_0 {X : pz_C} (hX : pz_X X cL_earliest 7 RL) : ∀ lv st g c s, (zo_al 2 5 (zo_ic 1 (0) (zo_al 1 0 (zo_il 1 1 (zo_il 1 2 (zo_ll 1 3 (pz_Z X 7))))))) 0 lv st g c s → pz_Z X 7 0 lv st g c s := (zs_aload hX dL_earliest_0 (zs_iconst hX dL_earliest_2 (by decide) (zs_aload_n hX dL_earliest_3 rfl (zs_iload_n hX dL_earliest_4 rfl (zs_iload_n hX dL_earliest_5 rfl (zs_lload_n hX dL_earliest_6 rfl (fun _ _ _ _ _ h => h)))))))
set_option maxRecDepth 20000 in
theorem bL_earliest_7 {X : pz_C} {G : pz_Gx} {sa md mi : Nat} {rm : Room} (hX : pz_X X cL_earliest 7 RL) (hrm : pz_rm X = rm) (hGX : pz_GX X G) (hOk : pz_O4 G sa md mi) (gh : gt_X9_earliest) (hr_X9_earliest : rm_X9_earliest.frames + 1 ≤ rm.frames ∧ 8 + (6 + 11) + rm_X9_earliest.locals ≤ rm.locals) : ∀ lv st g c s, (zo_cVX rm 11 3 3 rm_X9_earliest.cells rm_X9_earliest.slots (pr_X9_earliest sa gh) (po_X9_earliest sa gh) (px_X9_earliest gh) (pz_ZX X 7) (zo_kl (zo_last (zo_goto 22 (pz_Z X 7))))) 7 lv st g c s → pz_Z X 7 7 lv st g c s := by
  subst hrm
  exact (zs_csVX hX hGX (C := RX9) (T := TX9) (N := 7) rfl (ct_X9_earliest hOk.1 gh) mw_8655f7bd mw_b6ae0a28 mw_236b2f9a mw_8bb91264 mw_96b4de69 (by decide +kernel) hr_X9_earliest dL_earliest_7 (fun _ _ _ _ _ _ _ h => h) (zs_kl (zs_last hX dL_earliest_10 (zs_goto hX dL_earliest_11 (by decide) (fun _ _ _ _ _ _ h => h)))))
set_option maxRecDepth 20000 in
theorem bL_earliest_14 {X : pz_C} {rm : Room} {E : Option pz_V → pz_H → Prop} (hX : pz_X X cL_earliest 7 RL) (hR : pz_Rt X cL_earliest 7 (some .int) rm E) : ∀ lv st g c s, (zo_as 2 6 (zo_ic 1 (1) (zo_ri rm E))) 14 lv st g c s → pz_Z X 7 14 lv st g c s := (zs_astore hX dL_earliest_14 (by decide) (zs_iconst hX dL_earliest_16 (by decide) (zs_ri hR dL_earliest_17)))
set_option maxRecDepth 20000 in
theorem bL_earliest_18 {X : pz_C} {rm : Room} {E : Option pz_V → pz_H → Prop} (hX : pz_X X cL_earliest 7 RL) (hR : pz_Rt X cL_earliest 7 (some .int) rm E) : ∀ lv st g c s, (zo_as 2 6 (zo_ic 1 (2) (zo_ri rm E))) 18 lv st g c s → pz_Z X 7 18 lv st g c s := (zs_astore hX dL_earliest_18 (by decide) (zs_iconst hX dL_earliest_20 (by decide) (zs_ri hR dL_earliest_21)))
set_option maxRecDepth 20000 in
theorem bL_earliest_22 {X : pz_C} {rm : Room} {E : Option pz_V → pz_H → Prop} (hX : pz_X X cL_earliest 7 RL) (hR : pz_Rt X cL_earliest 7 (some .int) rm E) : ∀ lv st g c s, (zo_ic 1 (0) (zo_ri rm E)) 22 lv st g c s → pz_Z X 7 22 lv st g c s := (zs_iconst hX dL_earliest_22 (by decide) (zs_ri hR dL_earliest_23))
def hhL_earliest : List (Nat × Nat × Nat × Nat) := [(0, 11, 14, 21), (0, 11, 18, 13)]
def rm_L_earliest : Room := { frames := 9, cells := 3, slots := 18, locals := 175 }
abbrev gt_L_earliest : Type := gt_X9_earliest × Nat × (Nat → Int64)
def pr_L_earliest (sa md : Nat) : gt_L_earliest → List pz_V → pz_H → Prop := fun (gk, out, fo) av g => ∃ avK, av = avK ++ [.inr (.inr (some (out)))] ∧ pr_X9_earliest sa gk avK g ∧ (∃ h lb fs rs, avK = .inr (.inr (some (h))) :: rs ∧ g h = some (lb, .inr (11, fs))) ∧ g out = some ([17], ou_c fo)
def po_L_earliest (sa md : Nat) : gt_L_earliest → List pz_V → pz_H → Option pz_V → pz_H → Prop := fun (gk, out, fo) _ g v g' => (v = some (.inl 0) ∧ ∃ y g1 f', po_X9_earliest sa gk [] g (some (.inr (.inl (y)))) g1 ∧ g1 out = some ([17], ou_c fo) ∧ f' 0 = y ∧ g' = va_up g1 out (some ([17], ou_c f'))) ∨ ∃ E, px_X9_earliest gk [] g E g' ∧ ((E = nIOB ∧ v = some (.inl 1)) ∨ (E = nIAE ∧ v = some (.inl 2)))
set_option maxRecDepth 20000 in
theorem ct_L_earliest {G : pz_Gx} {sa md mi : Nat} (hOk : pz_O4 G sa md mi) (gh : gt_L_earliest) : pz_MH G yL_earliest cL_earliest 7 (some .int) hhL_earliest rm_L_earliest (pr_L_earliest sa md gh) (po_L_earliest sa md gh) := by
  obtain ⟨gk, out, fo⟩ := gh
  refine pz_ofZH (by decide) hOk.1.1.1.1 rfl ?_ ?_
  · rintro av g ⟨avK, rfl, hp, -⟩
    obtain ⟨⟨h, a, b, t⟩, ⟨nt, wy, lv, tx⟩, ⟨ne, nz, nw⟩, ⟨la, pa, na, so, fd, Wa⟩, ⟨nl, L, U⟩, ⟨fp, Z, N, C⟩, ⟨lg, K, Pa, pf⟩⟩ := gk
    obtain ⟨rfl, -⟩ := hp
    exact Nat.le_of_ble_eq_true rfl
  · rintro X hX hGX hrm hTab av g ⟨avK, rfl, hp, ⟨h0, lb, fs, rs, e0, hc0⟩, hout⟩ hR
    obtain ⟨⟨h, a, b, t⟩, ⟨nt, wy, lv, tx⟩, ⟨ne, nz, nw⟩, ⟨la, pa, na, so, fd, Wa⟩, ⟨nl, L, U⟩, ⟨fp, Z, N, C⟩, ⟨lg, K, Pa, pf⟩⟩ := gk
    obtain ⟨rfl, -⟩ := id hp
    cases e0
    refine bL_earliest_0 hX _ _ _ _ _ ?_
    refine bL_earliest_7 hX hrm hGX hOk _ (by decide) _ _ _ _ _ ⟨Nat.le_of_ble_eq_true rfl, ⟨_, [.inl (a), .inl (b), .inr (.inl (t))], lb, fs, rfl, hc0⟩, Nat.le_of_ble_eq_true rfl, Nat.le_of_ble_eq_true rfl, Nat.le_of_ble_eq_true rfl, hp, ?_, ?_⟩
    · intro E g2 hpx
      have hE : E = nIOB ∨ E = nIAE := by rcases id hpx with ⟨-, ⟨rfl, -⟩ | ⟨rfl, -⟩⟩ <;> simp
      rcases hE with rfl | rfl
      · refine zs_catch hX hGX hOk hTab (by simp) [] ⟨0, 11, 14, 21⟩ [⟨0, 11, 18, 13⟩] rfl (fun z hz => by cases hz) rfl (by decide) mw_c99be4d0 (fun q => ?_)
        exact bL_earliest_14 hX hR _ _ _ _ _ ⟨Nat.le_of_ble_eq_true rfl, Nat.le_of_ble_eq_true rfl, Or.inr ⟨_, hpx, Or.inl ⟨rfl, rfl⟩⟩⟩
      · refine zs_catch hX hGX hOk hTab (by simp) [⟨0, 11, 14, 21⟩] ⟨0, 11, 18, 13⟩ [] rfl (fun z hz => by
        rcases List.mem_cons.mp hz with rfl | hz
        · exact ⟨by decide, _, mw_c99be4d0, fun U h => h.2.1⟩
        · cases hz) rfl (by decide) mw_b8a3b66c (fun q => ?_)
        exact bL_earliest_18 hX hR _ _ _ _ _ ⟨Nat.le_of_ble_eq_true rfl, Nat.le_of_ble_eq_true rfl, Or.inr ⟨_, hpx, Or.inr ⟨rfl, rfl⟩⟩⟩
    · intro v g2 hpo z hz
      subst hz
      have hout2 : g2 out = some ([17], ou_c fo) := by
        obtain ⟨-, -, fr, to, T, -, -, -, -, -, -, hh, -⟩ := hpo
        exact hh _ _ _ hout (by simp [erSc, fbSc, lnSc])
      refine ⟨_, _, _, hout2, ni_in (j := 0) (n := 1) (by omega) (by omega), ?_⟩
      exact bL_earliest_22 hX hR _ _ _ _ _ ⟨Nat.le_of_ble_eq_true rfl, Nat.le_of_ble_eq_true rfl, Or.inl ⟨rfl, z, g2, _, hpo, hout2, rfl, rfl⟩⟩
set_option maxRecDepth 20000 in
theorem bL_step_0 {X : pz_C} (hX : pz_X X cL_step 5 RL) : ∀ lv st g c s, (zo_al 1 3 (zo_ic 1 (0) (zo_al 1 0 (zo_il 1 1 (zo_il 1 2 (pz_Z X 5)))))) 0 lv st g c s → pz_Z X 5 0 lv st g c s := (zs_aload_n hX dL_step_0 rfl (zs_iconst hX dL_step_1 (by decide) (zs_aload_n hX dL_step_2 rfl (zs_iload_n hX dL_step_3 rfl (zs_iload_n hX dL_step_4 rfl (fun _ _ _ _ _ h => h))))))
set_option maxRecDepth 20000 in
theorem bL_step_5 {X : pz_C} {G : pz_Gx} {sa md mi : Nat} {rm : Room} (hX : pz_X X cL_step 5 RL) (hrm : pz_rm X = rm) (hGX : pz_GX X G) (hOk : pz_O4 G sa md mi) (gh : gt_X9_step) (hr_X9_step : rm_X9_step.frames + 1 ≤ rm.frames ∧ 8 + (3 + 11) + rm_X9_step.locals ≤ rm.locals) : ∀ lv st g c s, (zo_cVX rm 11 2 3 rm_X9_step.cells rm_X9_step.slots (pr_X9_step gh) (po_X9_step gh) (px_X9_step gh) (pz_ZX X 5) (zo_ki (zo_i2l (zo_last (zo_goto 17 (pz_Z X 5)))))) 5 lv st g c s → pz_Z X 5 5 lv st g c s := by
  subst hrm
  exact (zs_csVX hX hGX (C := RX9) (T := TX9) (N := 7) rfl (ct_X9_step hOk.1 gh) mw_2ff67c7a mw_931f6ee0 mw_74cd6cb2 mw_8bb91264 mw_76202355 (by decide +kernel) hr_X9_step dL_step_5 (fun _ _ _ _ _ _ _ h => h) (zs_ki (zs_i2l hX dL_step_8 (zs_last hX dL_step_9 (zs_goto hX dL_step_10 (by decide) (fun _ _ _ _ _ _ h => h))))))
set_option maxRecDepth 20000 in
theorem bL_step_13 {X : pz_C} {rm : Room} {E : Option pz_V → pz_H → Prop} (hX : pz_X X cL_step 5 RL) (hR : pz_Rt X cL_step 5 (some .int) rm E) : ∀ lv st g c s, (zo_as 2 4 (zo_ic 1 (1) (zo_ri rm E))) 13 lv st g c s → pz_Z X 5 13 lv st g c s := (zs_astore hX dL_step_13 (by decide) (zs_iconst hX dL_step_15 (by decide) (zs_ri hR dL_step_16)))
set_option maxRecDepth 20000 in
theorem bL_step_17 {X : pz_C} {rm : Room} {E : Option pz_V → pz_H → Prop} (hX : pz_X X cL_step 5 RL) (hR : pz_Rt X cL_step 5 (some .int) rm E) : ∀ lv st g c s, (zo_ic 1 (0) (zo_ri rm E)) 17 lv st g c s → pz_Z X 5 17 lv st g c s := (zs_iconst hX dL_step_17 (by decide) (zs_ri hR dL_step_18))
def hhL_step : List (Nat × Nat × Nat × Nat) := [(0, 10, 13, 13)]
def rm_L_step : Room := { frames := 8, cells := 1, slots := 6, locals := 129 }
abbrev gt_L_step : Type := gt_X9_step × Nat × (Nat → Int64)
def pr_L_step (sa md : Nat) : gt_L_step → List pz_V → pz_H → Prop := fun (gk, out, fo) av g => ∃ avK, av = avK ++ [.inr (.inr (some (out)))] ∧ pr_X9_step gk avK g ∧ (∃ h lb fs rs, avK = .inr (.inr (some (h))) :: rs ∧ g h = some (lb, .inr (11, fs))) ∧ g out = some ([17], ou_c fo)
def po_L_step (sa md : Nat) : gt_L_step → List pz_V → pz_H → Option pz_V → pz_H → Prop := fun (gk, out, fo) _ g v g' => (v = some (.inl 0) ∧ ∃ y g1 f', po_X9_step gk [] g (some (.inl (y))) g1 ∧ g1 out = some ([17], ou_c fo) ∧ f' 0 = y.toInt64 ∧ g' = va_up g1 out (some ([17], ou_c f'))) ∨ ∃ E, px_X9_step gk [] g E g' ∧ ((E = nIAE ∧ v = some (.inl 1)))
set_option maxRecDepth 20000 in
theorem ct_L_step {G : pz_Gx} {sa md mi : Nat} (hOk : pz_O4 G sa md mi) (gh : gt_L_step) : pz_MH G yL_step cL_step 5 (some .int) hhL_step rm_L_step (pr_L_step sa md gh) (po_L_step sa md gh) := by
  obtain ⟨gk, out, fo⟩ := gh
  refine pz_ofZH (by decide) hOk.1.1.1.1 rfl ?_ ?_
  · rintro av g ⟨avK, rfl, hp, -⟩
    obtain ⟨⟨h, i, w⟩, ⟨nt, wy, lv, tx⟩, ⟨ne, nz, nw⟩, ⟨lg, K, Pa, pf⟩⟩ := gk
    obtain ⟨rfl, -⟩ := hp
    exact Nat.le_of_ble_eq_true rfl
  · rintro X hX hGX hrm hTab av g ⟨avK, rfl, hp, ⟨h0, lb, fs, rs, e0, hc0⟩, hout⟩ hR
    obtain ⟨⟨h, i, w⟩, ⟨nt, wy, lv, tx⟩, ⟨ne, nz, nw⟩, ⟨lg, K, Pa, pf⟩⟩ := gk
    obtain ⟨rfl, -⟩ := id hp
    cases e0
    refine bL_step_0 hX _ _ _ _ _ ?_
    refine bL_step_5 hX hrm hGX hOk _ (by decide) _ _ _ _ _ ⟨Nat.le_of_ble_eq_true rfl, ⟨_, [.inl (i), .inl (w)], lb, fs, rfl, hc0⟩, Nat.le_of_ble_eq_true rfl, Nat.le_of_ble_eq_true rfl, Nat.le_of_ble_eq_true rfl, hp, ?_, ?_⟩
    · intro E g2 hpx
      have hE : E = nIAE := by rcases id hpx with ⟨rfl, -⟩ <;> simp
      rcases hE with rfl
      refine zs_catch hX hGX hOk hTab (by simp) [] ⟨0, 10, 13, 13⟩ [] rfl (fun z hz => by cases hz) rfl (by decide) mw_b8a3b66c (fun q => ?_)
      exact bL_step_13 hX hR _ _ _ _ _ ⟨Nat.le_of_ble_eq_true rfl, Nat.le_of_ble_eq_true rfl, Or.inr ⟨_, hpx, ⟨rfl, rfl⟩⟩⟩
    · intro v g2 hpo z hz
      subst hz
      have hout2 : g2 out = some ([17], ou_c fo) := by
        rw [hpo.1]; exact hout
      refine ⟨_, _, _, hout2, ni_in (j := 0) (n := 1) (by omega) (by omega), ?_⟩
      exact bL_step_17 hX hR _ _ _ _ _ ⟨Nat.le_of_ble_eq_true rfl, Nat.le_of_ble_eq_true rfl, Or.inl ⟨rfl, z, g2, _, hpo, hout2, rfl, rfl⟩⟩
set_option maxRecDepth 20000 in
theorem bL_days_0 {X : pz_C} (hX : pz_X X cL_days 5 RL) : ∀ lv st g c s, (zo_al 1 3 (zo_ic 1 (0) (zo_al 1 0 (zo_il 1 1 (zo_il 1 2 (pz_Z X 5)))))) 0 lv st g c s → pz_Z X 5 0 lv st g c s := (zs_aload_n hX dL_days_0 rfl (zs_iconst hX dL_days_1 (by decide) (zs_aload_n hX dL_days_2 rfl (zs_iload_n hX dL_days_3 rfl (zs_iload_n hX dL_days_4 rfl (fun _ _ _ _ _ h => h))))))
set_option maxRecDepth 20000 in
theorem bL_days_5 {X : pz_C} {G : pz_Gx} {sa md mi : Nat} {rm : Room} (hX : pz_X X cL_days 5 RL) (hrm : pz_rm X = rm) (hGX : pz_GX X G) (hOk : pz_O4 G sa md mi) (gh : gt_X9_days) (hr_X9_days : rm_X9_days.frames + 1 ≤ rm.frames ∧ 8 + (3 + 11) + rm_X9_days.locals ≤ rm.locals) : ∀ lv st g c s, (zo_cVX rm 11 2 3 rm_X9_days.cells rm_X9_days.slots (pr_X9_days md gh) (po_X9_days md gh) (px_X9_days md gh) (pz_ZX X 5) (zo_ki (zo_i2l (zo_last (zo_goto 17 (pz_Z X 5)))))) 5 lv st g c s → pz_Z X 5 5 lv st g c s := by
  subst hrm
  exact (zs_csVX hX hGX (C := RX9) (T := TX9) (N := 7) rfl (ct_X9_days hOk.1 gh) mw_2d7f2b72 mw_f0b6423d mw_92292181 mw_8bb91264 mw_fe19d6ca (by decide +kernel) hr_X9_days dL_days_5 (fun _ _ _ _ _ _ _ h => h) (zs_ki (zs_i2l hX dL_days_8 (zs_last hX dL_days_9 (zs_goto hX dL_days_10 (by decide) (fun _ _ _ _ _ _ h => h))))))
set_option maxRecDepth 20000 in
theorem bL_days_13 {X : pz_C} {rm : Room} {E : Option pz_V → pz_H → Prop} (hX : pz_X X cL_days 5 RL) (hR : pz_Rt X cL_days 5 (some .int) rm E) : ∀ lv st g c s, (zo_as 2 4 (zo_ic 1 (1) (zo_ri rm E))) 13 lv st g c s → pz_Z X 5 13 lv st g c s := (zs_astore hX dL_days_13 (by decide) (zs_iconst hX dL_days_15 (by decide) (zs_ri hR dL_days_16)))
set_option maxRecDepth 20000 in
theorem bL_days_17 {X : pz_C} {rm : Room} {E : Option pz_V → pz_H → Prop} (hX : pz_X X cL_days 5 RL) (hR : pz_Rt X cL_days 5 (some .int) rm E) : ∀ lv st g c s, (zo_ic 1 (0) (zo_ri rm E)) 17 lv st g c s → pz_Z X 5 17 lv st g c s := (zs_iconst hX dL_days_17 (by decide) (zs_ri hR dL_days_18))
def hhL_days : List (Nat × Nat × Nat × Nat) := [(0, 10, 13, 49)]
def rm_L_days : Room := { frames := 8, cells := 1, slots := 6, locals := 117 }
abbrev gt_L_days : Type := gt_X9_days × Nat × (Nat → Int64)
def pr_L_days (sa md : Nat) : gt_L_days → List pz_V → pz_H → Prop := fun (gk, out, fo) av g => ∃ avK, av = avK ++ [.inr (.inr (some (out)))] ∧ pr_X9_days md gk avK g ∧ (∃ h lb fs rs, avK = .inr (.inr (some (h))) :: rs ∧ g h = some (lb, .inr (11, fs))) ∧ g out = some ([17], ou_c fo)
def po_L_days (sa md : Nat) : gt_L_days → List pz_V → pz_H → Option pz_V → pz_H → Prop := fun (gk, out, fo) _ g v g' => (v = some (.inl 0) ∧ ∃ y g1 f', po_X9_days md gk [] g (some (.inl (y))) g1 ∧ g1 out = some ([17], ou_c fo) ∧ f' 0 = y.toInt64 ∧ g' = va_up g1 out (some ([17], ou_c f'))) ∨ ∃ E, px_X9_days md gk [] g E g' ∧ ((E = nAIO ∧ v = some (.inl 1)))
set_option maxRecDepth 20000 in
theorem ct_L_days {G : pz_Gx} {sa md mi : Nat} (hOk : pz_O4 G sa md mi) (gh : gt_L_days) : pz_MH G yL_days cL_days 5 (some .int) hhL_days rm_L_days (pr_L_days sa md gh) (po_L_days sa md gh) := by
  obtain ⟨gk, out, fo⟩ := gh
  refine pz_ofZH (by decide) hOk.1.1.1.1 rfl ?_ ?_
  · rintro av g ⟨avK, rfl, hp, -⟩
    obtain ⟨h, m, y⟩ := gk
    obtain ⟨rfl, -⟩ := hp
    exact Nat.le_of_ble_eq_true rfl
  · rintro X hX hGX hrm hTab av g ⟨avK, rfl, hp, ⟨h0, lb, fs, rs, e0, hc0⟩, hout⟩ hR
    obtain ⟨h, m, y⟩ := gk
    obtain ⟨rfl, -⟩ := id hp
    cases e0
    refine bL_days_0 hX _ _ _ _ _ ?_
    refine bL_days_5 hX hrm hGX hOk _ (by decide) _ _ _ _ _ ⟨Nat.le_of_ble_eq_true rfl, ⟨_, [.inl (m), .inl (y)], lb, fs, rfl, hc0⟩, Nat.le_of_ble_eq_true rfl, Nat.le_of_ble_eq_true rfl, Nat.le_of_ble_eq_true rfl, hp, ?_, ?_⟩
    · intro E g2 hpx
      have hE : E = nAIO := by rcases id hpx with ⟨-, rfl, -⟩ <;> simp
      rcases hE with rfl
      refine zs_catch hX hGX hOk hTab (by simp) [] ⟨0, 10, 13, 49⟩ [] rfl (fun z hz => by cases hz) rfl (by decide) mw_d435b249 (fun q => ?_)
      exact bL_days_13 hX hR _ _ _ _ _ ⟨Nat.le_of_ble_eq_true rfl, Nat.le_of_ble_eq_true rfl, Or.inr ⟨_, hpx, ⟨rfl, rfl⟩⟩⟩
    · intro v g2 hpo z hz
      subst hz
      have hout2 : g2 out = some ([17], ou_c fo) := by
        rw [hpo.1]; exact hout
      refine ⟨_, _, _, hout2, ni_in (j := 0) (n := 1) (by omega) (by omega), ?_⟩
      exact bL_days_17 hX hR _ _ _ _ _ ⟨Nat.le_of_ble_eq_true rfl, Nat.le_of_ble_eq_true rfl, Or.inl ⟨rfl, z, g2, _, hpo, hout2, rfl, rfl⟩⟩
set_option maxRecDepth 20000 in
theorem bL_next_0 {X : pz_C} (hX : pz_X X cL_next 8 RL) : ∀ lv st g c s, (zo_al 2 6 (zo_ic 1 (0) (zo_al 1 0 (zo_il 1 1 (zo_il 1 2 (zo_ll 1 3 (zo_il 2 5 (pz_Z X 8)))))))) 0 lv st g c s → pz_Z X 8 0 lv st g c s := (zs_aload hX dL_next_0 (zs_iconst hX dL_next_2 (by decide) (zs_aload_n hX dL_next_3 rfl (zs_iload_n hX dL_next_4 rfl (zs_iload_n hX dL_next_5 rfl (zs_lload_n hX dL_next_6 rfl (zs_iload hX dL_next_7 (fun _ _ _ _ _ h => h))))))))
set_option maxRecDepth 20000 in
theorem bL_next_9 {X : pz_C} {G : pz_Gx} {sa md mi : Nat} {rm : Room} (hX : pz_X X cL_next 8 RL) (hrm : pz_rm X = rm) (hGX : pz_GX X G) (hOk : pz_O4 G sa md mi) (gh : gt_X9_next) (hr_X9_next : rm_X9_next.frames + 1 ≤ rm.frames ∧ 8 + (6 + 11) + rm_X9_next.locals ≤ rm.locals) : ∀ lv st g c s, (zo_cVX rm 11 4 3 rm_X9_next.cells rm_X9_next.slots (pr_X9_next sa gh) (po_X9_next sa gh) (px_X9_next gh) (pz_ZX X 8) (zo_ki (zo_i2l (zo_last (zo_goto 25 (pz_Z X 8)))))) 9 lv st g c s → pz_Z X 8 9 lv st g c s := by
  subst hrm
  exact (zs_csVX hX hGX (C := RX9) (T := TX9) (N := 7) rfl (ct_X9_next hOk.1 gh) mw_36536e3a mw_47ae7ab8 mw_4a09c3ea mw_8bb91264 mw_7290da65 (by decide +kernel) hr_X9_next dL_next_9 (fun _ _ _ _ _ _ _ h => h) (zs_ki (zs_i2l hX dL_next_12 (zs_last hX dL_next_13 (zs_goto hX dL_next_14 (by decide) (fun _ _ _ _ _ _ h => h))))))
set_option maxRecDepth 20000 in
theorem bL_next_17 {X : pz_C} {rm : Room} {E : Option pz_V → pz_H → Prop} (hX : pz_X X cL_next 8 RL) (hR : pz_Rt X cL_next 8 (some .int) rm E) : ∀ lv st g c s, (zo_as 2 7 (zo_ic 1 (1) (zo_ri rm E))) 17 lv st g c s → pz_Z X 8 17 lv st g c s := (zs_astore hX dL_next_17 (by decide) (zs_iconst hX dL_next_19 (by decide) (zs_ri hR dL_next_20)))
set_option maxRecDepth 20000 in
theorem bL_next_21 {X : pz_C} {rm : Room} {E : Option pz_V → pz_H → Prop} (hX : pz_X X cL_next 8 RL) (hR : pz_Rt X cL_next 8 (some .int) rm E) : ∀ lv st g c s, (zo_as 2 7 (zo_ic 1 (2) (zo_ri rm E))) 21 lv st g c s → pz_Z X 8 21 lv st g c s := (zs_astore hX dL_next_21 (by decide) (zs_iconst hX dL_next_23 (by decide) (zs_ri hR dL_next_24)))
set_option maxRecDepth 20000 in
theorem bL_next_25 {X : pz_C} {rm : Room} {E : Option pz_V → pz_H → Prop} (hX : pz_X X cL_next 8 RL) (hR : pz_Rt X cL_next 8 (some .int) rm E) : ∀ lv st g c s, (zo_ic 1 (0) (zo_ri rm E)) 25 lv st g c s → pz_Z X 8 25 lv st g c s := (zs_iconst hX dL_next_25 (by decide) (zs_ri hR dL_next_26))
def hhL_next : List (Nat × Nat × Nat × Nat) := [(0, 14, 17, 21), (0, 14, 21, 13)]
def rm_L_next : Room := { frames := 9, cells := 4, slots := 24, locals := 175 }
abbrev gt_L_next : Type := gt_X9_next × Nat × (Nat → Int64)
def pr_L_next (sa md : Nat) : gt_L_next → List pz_V → pz_H → Prop := fun (gk, out, fo) av g => ∃ avK, av = avK ++ [.inr (.inr (some (out)))] ∧ pr_X9_next sa gk avK g ∧ (∃ h lb fs rs, avK = .inr (.inr (some (h))) :: rs ∧ g h = some (lb, .inr (11, fs))) ∧ g out = some ([17], ou_c fo)
def po_L_next (sa md : Nat) : gt_L_next → List pz_V → pz_H → Option pz_V → pz_H → Prop := fun (gk, out, fo) _ g v g' => (v = some (.inl 0) ∧ ∃ y g1 f', po_X9_next sa gk [] g (some (.inl (y))) g1 ∧ g1 out = some ([17], ou_c fo) ∧ f' 0 = y.toInt64 ∧ g' = va_up g1 out (some ([17], ou_c f'))) ∨ ∃ E, px_X9_next gk [] g E g' ∧ ((E = nIOB ∧ v = some (.inl 1)) ∨ (E = nIAE ∧ v = some (.inl 2)))
set_option maxRecDepth 20000 in
theorem ct_L_next {G : pz_Gx} {sa md mi : Nat} (hOk : pz_O4 G sa md mi) (gh : gt_L_next) : pz_MH G yL_next cL_next 8 (some .int) hhL_next rm_L_next (pr_L_next sa md gh) (po_L_next sa md gh) := by
  obtain ⟨gk, out, fo⟩ := gh
  refine pz_ofZH (by decide) hOk.1.1.1.1 rfl ?_ ?_
  · rintro av g ⟨avK, rfl, hp, -⟩
    obtain ⟨⟨h, a, b, t, i⟩, ⟨nt, wy, lv, tx⟩, ⟨ne, nz, nw⟩, ⟨la, pa, na, so, fd, Wa⟩, ⟨nl, L, U⟩, ⟨fp, Z, N, C⟩, ⟨ti, lc, lw, lf⟩⟩ := gk
    obtain ⟨rfl, -⟩ := hp
    exact Nat.le_of_ble_eq_true rfl
  · rintro X hX hGX hrm hTab av g ⟨avK, rfl, hp, ⟨h0, lb, fs, rs, e0, hc0⟩, hout⟩ hR
    obtain ⟨⟨h, a, b, t, i⟩, ⟨nt, wy, lv, tx⟩, ⟨ne, nz, nw⟩, ⟨la, pa, na, so, fd, Wa⟩, ⟨nl, L, U⟩, ⟨fp, Z, N, C⟩, ⟨ti, lc, lw, lf⟩⟩ := gk
    obtain ⟨rfl, -⟩ := id hp
    cases e0
    refine bL_next_0 hX _ _ _ _ _ ?_
    refine bL_next_9 hX hrm hGX hOk _ (by decide) _ _ _ _ _ ⟨Nat.le_of_ble_eq_true rfl, ⟨_, [.inl (a), .inl (b), .inr (.inl (t)), .inl (i)], lb, fs, rfl, hc0⟩, Nat.le_of_ble_eq_true rfl, Nat.le_of_ble_eq_true rfl, Nat.le_of_ble_eq_true rfl, hp, ?_, ?_⟩
    · intro E g2 hpx
      have hE : E = nIOB ∨ E = nIAE := by rcases id hpx with ⟨-, ⟨rfl, -⟩ | ⟨rfl, -⟩⟩ <;> simp
      rcases hE with rfl | rfl
      · refine zs_catch hX hGX hOk hTab (by simp) [] ⟨0, 14, 17, 21⟩ [⟨0, 14, 21, 13⟩] rfl (fun z hz => by cases hz) rfl (by decide) mw_c99be4d0 (fun q => ?_)
        exact bL_next_17 hX hR _ _ _ _ _ ⟨Nat.le_of_ble_eq_true rfl, Nat.le_of_ble_eq_true rfl, Or.inr ⟨_, hpx, Or.inl ⟨rfl, rfl⟩⟩⟩
      · refine zs_catch hX hGX hOk hTab (by simp) [⟨0, 14, 17, 21⟩] ⟨0, 14, 21, 13⟩ [] rfl (fun z hz => by
        rcases List.mem_cons.mp hz with rfl | hz
        · exact ⟨by decide, _, mw_c99be4d0, fun U h => h.2.1⟩
        · cases hz) rfl (by decide) mw_b8a3b66c (fun q => ?_)
        exact bL_next_21 hX hR _ _ _ _ _ ⟨Nat.le_of_ble_eq_true rfl, Nat.le_of_ble_eq_true rfl, Or.inr ⟨_, hpx, Or.inr ⟨rfl, rfl⟩⟩⟩
    · intro v g2 hpo z hz
      subst hz
      have hout2 : g2 out = some ([17], ou_c fo) := by
        obtain ⟨-, -, fr, to, T, n, -, -, -, -, -, -, -, -, -, hh, -⟩ := hpo
        exact hh _ _ _ hout (by simp [gaSc, lnSc])
      refine ⟨_, _, _, hout2, ni_in (j := 0) (n := 1) (by omega) (by omega), ?_⟩
      exact bL_next_25 hX hR _ _ _ _ _ ⟨Nat.le_of_ble_eq_true rfl, Nat.le_of_ble_eq_true rfl, Or.inl ⟨rfl, z, g2, _, hpo, hout2, rfl, rfl⟩⟩
set_option maxRecDepth 20000 in
theorem bL_sign_0 {X : pz_C} (hX : pz_X X cL_sign 3 RL) : ∀ lv st g c s, (zo_al 1 0 (zo_il 1 1 (pz_Z X 3))) 0 lv st g c s → pz_Z X 3 0 lv st g c s := (zs_aload_n hX dL_sign_0 rfl (zs_iload_n hX dL_sign_1 rfl (fun _ _ _ _ _ h => h)))
set_option maxRecDepth 20000 in
theorem bL_sign_2 {X : pz_C} {G : pz_Gx} {sa md mi : Nat} {rm : Room} (hX : pz_X X cL_sign 3 RL) (hrm : pz_rm X = rm) (hGX : pz_GX X G) (hOk : pz_O4 G sa md mi) (gh : gt_X9_sign) (hr_X9_sign : rm_X9_sign.frames + 1 ≤ rm.frames ∧ 8 + (2 + 11) + rm_X9_sign.locals ≤ rm.locals) : ∀ lv st g c s, (zo_cVX rm 11 1 3 rm_X9_sign.cells rm_X9_sign.slots (pr_X9_sign gh) (po_X9_sign gh) (px_X9_sign gh) (pz_ZX X 3) (zo_kv (zo_goto 14 (pz_Z X 3)))) 2 lv st g c s → pz_Z X 3 2 lv st g c s := by
  subst hrm
  exact (zs_csVX hX hGX (C := RX9) (T := TX9) (N := 7) rfl (ct_X9_sign hOk.1 gh) mw_b8853da4 mw_a4948313 mw_6adb22e8 mw_8bb91264 mw_5307be01 (by decide +kernel) hr_X9_sign dL_sign_2 (fun _ _ _ _ _ _ _ h => h) (zs_kv (zs_goto hX dL_sign_5 (by decide) (fun _ _ _ _ _ _ h => h))))
set_option maxRecDepth 20000 in
theorem bL_sign_8 {X : pz_C} {rm : Room} {E : Option pz_V → pz_H → Prop} (hX : pz_X X cL_sign 3 RL) (hR : pz_Rt X cL_sign 3 (some .int) rm E) : ∀ lv st g c s, (zo_as 1 2 (zo_ic 1 (1) (zo_ri rm E))) 8 lv st g c s → pz_Z X 3 8 lv st g c s := (zs_astore_n hX dL_sign_8 rfl (by decide) (zs_iconst hX dL_sign_9 (by decide) (zs_ri hR dL_sign_10)))
set_option maxRecDepth 20000 in
theorem bL_sign_11 {X : pz_C} {rm : Room} {E : Option pz_V → pz_H → Prop} (hX : pz_X X cL_sign 3 RL) (hR : pz_Rt X cL_sign 3 (some .int) rm E) : ∀ lv st g c s, (zo_as 1 2 (zo_ic 1 (2) (zo_ri rm E))) 11 lv st g c s → pz_Z X 3 11 lv st g c s := (zs_astore_n hX dL_sign_11 rfl (by decide) (zs_iconst hX dL_sign_12 (by decide) (zs_ri hR dL_sign_13)))
set_option maxRecDepth 20000 in
theorem bL_sign_14 {X : pz_C} {rm : Room} {E : Option pz_V → pz_H → Prop} (hX : pz_X X cL_sign 3 RL) (hR : pz_Rt X cL_sign 3 (some .int) rm E) : ∀ lv st g c s, (zo_ic 1 (0) (zo_ri rm E)) 14 lv st g c s → pz_Z X 3 14 lv st g c s := (zs_iconst hX dL_sign_14 (by decide) (zs_ri hR dL_sign_15))
def hhL_sign : List (Nat × Nat × Nat × Nat) := [(0, 5, 8, 13), (0, 5, 11, 15)]
def rm_L_sign : Room := { frames := 8, cells := 2, slots := 12, locals := 128 }
abbrev gt_L_sign : Type := gt_X9_sign
def pr_L_sign (sa md : Nat) : gt_L_sign → List pz_V → pz_H → Prop := fun gk av g => ∃ avK, av = avK ∧ pr_X9_sign gk avK g ∧ (∃ h lb fs rs, avK = .inr (.inr (some (h))) :: rs ∧ g h = some (lb, .inr (11, fs)))
def po_L_sign (sa md : Nat) : gt_L_sign → List pz_V → pz_H → Option pz_V → pz_H → Prop := fun gk _ g v g' => (v = some (.inl 0) ∧ po_X9_sign gk [] g none g') ∨ ∃ E, px_X9_sign gk [] g E g' ∧ ((E = nIAE ∧ v = some (.inl 1)) ∨ (E = nUOE ∧ v = some (.inl 2)))
set_option maxRecDepth 20000 in
theorem ct_L_sign {G : pz_Gx} {sa md mi : Nat} (hOk : pz_O4 G sa md mi) (gh : gt_L_sign) : pz_MH G yL_sign cL_sign 3 (some .int) hhL_sign rm_L_sign (pr_L_sign sa md gh) (po_L_sign sa md gh) := by
  revert gh
  intro gk
  refine pz_ofZH (by decide) hOk.1.1.1.1 rfl ?_ ?_
  · rintro av g ⟨avK, rfl, hp, -⟩
    obtain ⟨⟨h, x⟩, ⟨nt, wy, lv, tx⟩, ⟨ne, nz, nw⟩, ⟨cm, sg, len, at'⟩, ⟨fa, ro⟩, cf⟩ := gk
    obtain ⟨rfl, -⟩ := hp
    exact Nat.le_of_ble_eq_true rfl
  · rintro X hX hGX hrm hTab av g ⟨avK, rfl, hp, ⟨h0, lb, fs, rs, e0, hc0⟩⟩ hR
    obtain ⟨⟨h, x⟩, ⟨nt, wy, lv, tx⟩, ⟨ne, nz, nw⟩, ⟨cm, sg, len, at'⟩, ⟨fa, ro⟩, cf⟩ := gk
    obtain ⟨rfl, -⟩ := id hp
    cases e0
    refine bL_sign_0 hX _ _ _ _ _ ?_
    refine bL_sign_2 hX hrm hGX hOk _ (by decide) _ _ _ _ _ ⟨Nat.le_of_ble_eq_true rfl, ⟨_, [.inl (x)], lb, fs, rfl, hc0⟩, Nat.le_of_ble_eq_true rfl, Nat.le_of_ble_eq_true rfl, Nat.le_of_ble_eq_true rfl, hp, ?_, ?_⟩
    · intro E g2 hpx
      have hE : E = nIAE ∨ E = nUOE := by rcases id hpx with ⟨-, ⟨rfl, -⟩ | ⟨rfl, -⟩⟩ <;> simp
      rcases hE with rfl | rfl
      · refine zs_catch hX hGX hOk hTab (by simp) [] ⟨0, 5, 8, 13⟩ [⟨0, 5, 11, 15⟩] rfl (fun z hz => by cases hz) rfl (by decide) mw_b8a3b66c (fun q => ?_)
        exact bL_sign_8 hX hR _ _ _ _ _ ⟨Nat.le_of_ble_eq_true rfl, Nat.le_of_ble_eq_true rfl, Or.inr ⟨_, hpx, Or.inl ⟨rfl, rfl⟩⟩⟩
      · refine zs_catch hX hGX hOk hTab (by simp) [⟨0, 5, 8, 13⟩] ⟨0, 5, 11, 15⟩ [] rfl (fun z hz => by
        rcases List.mem_cons.mp hz with rfl | hz
        · exact ⟨by decide, _, mw_b8a3b66c, fun U h => h.2.2.2⟩
        · cases hz) rfl (by decide) mw_68ba39fd (fun q => ?_)
        exact bL_sign_11 hX hR _ _ _ _ _ ⟨Nat.le_of_ble_eq_true rfl, Nat.le_of_ble_eq_true rfl, Or.inr ⟨_, hpx, Or.inr ⟨rfl, rfl⟩⟩⟩
    · rintro v g2 hpo rfl
      exact bL_sign_14 hX hR _ _ _ _ _ ⟨Nat.le_of_ble_eq_true rfl, Nat.le_of_ble_eq_true rfl, Or.inl ⟨rfl, hpo⟩⟩
