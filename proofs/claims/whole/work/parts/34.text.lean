/-! LineTimes$Text: its own cells; add, stands, parseSign, parseNumber -/
def txS (g : pz_H) (tx cm sg len at' : Nat) (fault room : Int32) (cf : Nat → Int32) : Prop := g tx = some ([4], .inr (8, [.inr (.inr (some cm)), .inl (nI len), .inr (.inr (some sg)), .inl (nI at'), .inl fault, .inl room])) ∧ g sg = some ([16], .inl (3, 500, .inl cf))
theorem txS_mono {g g' : pz_H} {S : List Nat → Prop} (hh : hg S g g') {tx cm sg len at' : Nat} {fault room : Int32} {cf : Nat → Int32} (hS : ¬ S [4] ∧ ¬ S [16]) (h : txS g tx cm sg len at' fault room cf) : txS g' tx cm sg len at' fault room cf := ⟨hh _ _ _ h.1 hS.1, hh _ _ _ h.2 hS.2⟩
set_option maxRecDepth 20000 in
theorem bX6_add_0 {X : pz_C} (hX : pz_X X cX6_add 2 RX6) : ∀ lv st g c s, (zo_al 1 0 (zo_get 8 1 (zo_ic 3 (500) (zo_ic_ge 30 (pz_Z X 2))))) 0 lv st g c s → pz_Z X 2 0 lv st g c s := (zs_aload_n hX dX6_add_0 rfl (zs_get hX (C := RX6) (T := TX6) (N := 6) rfl in_X6 (by decide) mw_526baddf dX6_add_1 (zs_sipush hX dX6_add_4 (by decide) (zs_ic_ge hX dX6_add_7 (by decide) (fun _ _ _ _ _ _ h => h)))))
set_option maxRecDepth 20000 in
theorem bX6_add_10 {X : pz_C} (hX : pz_X X cX6_add 2 RX6) : ∀ lv st g c s, (zo_al 1 0 (zo_get 8 2 (zo_al 1 0 (zo_get 8 1 (zo_il 1 1 (zo_cast (zo_al 1 0 (zo_dup (zo_get 8 1 (zo_ic 1 (1) (zo_iadd (zo_puti 8 1 (pz_Z X 2))))))))))))) 10 lv st g c s → pz_Z X 2 10 lv st g c s := (zs_aload_n hX dX6_add_10 rfl (zs_get hX (C := RX6) (T := TX6) (N := 6) rfl in_X6 (by decide) mw_1d02cde0 dX6_add_11 (zs_aload_n hX dX6_add_14 rfl (zs_get hX (C := RX6) (T := TX6) (N := 6) rfl in_X6 (by decide) mw_526baddf dX6_add_15 (zs_iload_n hX dX6_add_18 rfl (zs_cast hX dX6_add_19 (zs_aload_n hX dX6_add_20 rfl (zs_dup hX dX6_add_21 (zs_get hX (C := RX6) (T := TX6) (N := 6) rfl in_X6 (by decide) mw_526baddf dX6_add_22 (zs_iconst hX dX6_add_25 (by decide) (zs_iadd hX dX6_add_26 (zs_puti hX (C := RX6) (T := TX6) (N := 6) rfl in_X6 (by decide) mw_526baddf tyX6 tyX6_ok nmX6 (by decide +kernel) rfl dX6_add_27 (fun _ _ _ _ _ h => h)))))))))))))
set_option maxRecDepth 20000 in
theorem bX6_add_30 {X : pz_C} {rm : Room} {E : Option pz_V → pz_H → Prop} (hX : pz_X X cX6_add 2 RX6) (hR : pz_Rt X cX6_add 2 none rm E) : ∀ lv st g c s, (zo_rv rm E) 30 lv st g c s → pz_Z X 2 30 lv st g c s := (zs_rv hR dX6_add_30)
set_option maxRecDepth 20000 in
theorem bX6_stands_0 {X : pz_C} (hX : pz_X X cX6_stands 2 RX6) : ∀ lv st g c s, (zo_al 1 0 (zo_get 8 3 (zo_al 1 0 (zo_get 8 1 (zo_ic_ge 28 (pz_Z X 2)))))) 0 lv st g c s → pz_Z X 2 0 lv st g c s := (zs_aload_n hX dX6_stands_0 rfl (zs_get hX (C := RX6) (T := TX6) (N := 6) rfl in_X6 (by decide) mw_efbf8de0 dX6_stands_1 (zs_aload_n hX dX6_stands_4 rfl (zs_get hX (C := RX6) (T := TX6) (N := 6) rfl in_X6 (by decide) mw_526baddf dX6_stands_5 (zs_ic_ge hX dX6_stands_8 (by decide) (fun _ _ _ _ _ _ h => h))))))
set_option maxRecDepth 20000 in
theorem bX6_stands_11 {X : pz_C} (hX : pz_X X cX6_stands 2 RX6) : ∀ lv st g c s, (zo_al 1 0 (zo_get 8 2 (zo_al 1 0 (zo_get 8 3 (zo_cald (zo_il 1 1 (zo_ic_ne 28 (pz_Z X 2)))))))) 11 lv st g c s → pz_Z X 2 11 lv st g c s := (zs_aload_n hX dX6_stands_11 rfl (zs_get hX (C := RX6) (T := TX6) (N := 6) rfl in_X6 (by decide) mw_1d02cde0 dX6_stands_12 (zs_aload_n hX dX6_stands_15 rfl (zs_get hX (C := RX6) (T := TX6) (N := 6) rfl in_X6 (by decide) mw_efbf8de0 dX6_stands_16 (zs_cald hX dX6_stands_19 (zs_iload_n hX dX6_stands_20 rfl (zs_ic_ne hX dX6_stands_21 (by decide) (fun _ _ _ _ _ _ h => h))))))))
set_option maxRecDepth 20000 in
theorem bX6_stands_24 {X : pz_C} (hX : pz_X X cX6_stands 2 RX6) : ∀ lv st g c s, (zo_ic 1 (1) (zo_goto 29 (pz_Z X 2))) 24 lv st g c s → pz_Z X 2 24 lv st g c s := (zs_iconst hX dX6_stands_24 (by decide) (zs_goto hX dX6_stands_25 (by decide) (fun _ _ _ _ _ _ h => h)))
set_option maxRecDepth 20000 in
theorem bX6_stands_28 {X : pz_C} (hX : pz_X X cX6_stands 2 RX6) : ∀ lv st g c s, (zo_ic 1 (0) (pz_Z X 2)) 28 lv st g c s → pz_Z X 2 28 lv st g c s := (zs_iconst hX dX6_stands_28 (by decide) (fun _ _ _ _ _ h => h))
set_option maxRecDepth 20000 in
theorem bX6_stands_29 {X : pz_C} {rm : Room} {E : Option pz_V → pz_H → Prop} (hX : pz_X X cX6_stands 2 RX6) (hR : pz_Rt X cX6_stands 2 (some .boolean) rm E) : ∀ lv st g c s, (zo_rz rm E) 29 lv st g c s → pz_Z X 2 29 lv st g c s := (zs_rz hR dX6_stands_29)
def rm_X6_add : Room := { frames := 0, cells := 0, slots := 0, locals := 0 }
abbrev gt_X6_add : Type := (Nat × Int32) × (Nat × Nat × Nat × Nat) × (Int32 × Int32) × (Nat → Int32)
def pr_X6_add : gt_X6_add → List pz_V → pz_H → Prop := fun ((tx, x), (cm, sg, len, at'), (fa, ro), cf) av g => av = [.inr (.inr (some tx)), .inl x] ∧ len < 500 ∧ txS g tx cm sg len at' fa ro cf
def po_X6_add : gt_X6_add → List pz_V → pz_H → Option pz_V → pz_H → Prop := fun ((tx, x), (cm, sg, len, at'), (fa, ro), cf) _ g v g' => v = none ∧ hg (fun b => b = [4] ∨ b = [16]) g g' ∧ txS g' tx cm sg (len + 1) at' fa ro (upd cf len (vp_nar .char x))
set_option maxRecDepth 20000 in
theorem ct_X6_add {G : pz_Gx} (hOk : pz_OK G) (gh : gt_X6_add) : pz_M G yX6_add cX6_add 2 none rm_X6_add (pr_X6_add gh) (po_X6_add gh) := by
  obtain ⟨⟨tx, x⟩, ⟨cm, sg, len, at'⟩, ⟨fa, ro⟩, cf⟩ := gh
  refine pz_ofZ (by decide) hOk.1 (Or.inl rfl) ?_ ?_
  · rintro av g ⟨rfl, -⟩
    exact Nat.le_of_ble_eq_true rfl
  · rintro X hX hGX hrm - av g ⟨rfl, hl, ht, hs⟩ hR
    refine bX6_add_0 hX _ _ _ _ _ ⟨_, _, _, ht, rfl, fun q => absurd ((ni_le (a := 500) (by omega) (by omega)).mp q) (by omega), fun _ => ?_⟩
    refine bX6_add_10 hX _ _ _ _ _ ⟨_, _, _, ht, rfl, _, _, _, ht, rfl, _, _, _, hs, ni_in hl (by omega), rfl, _, _, _, up_ne ht hs (by simp), rfl, _, _, up_ne ht hs (by simp), Nat.le_of_ble_eq_true rfl, ?_⟩
    rw [ni_cl (by omega)]
    refine bX6_add_30 hX hR _ _ _ _ _ ⟨Nat.le_refl _, Nat.le_refl _, rfl, hg_up (hg_up hg_rf hs (Or.inr rfl)) (up_ne ht hs (by simp)) (Or.inl rfl), ?_, up_ne up_at (up_ne ht hs (by simp)) (by simp)⟩
    rw [up_at, nI_1]
    rfl
def tx_st (len : Nat) (cf : Nat → Int32) (a : Nat) (x : Int32) : Bool := decide (a < len) && decide (cf a = x)
def rm_X6_stands : Room := { frames := 0, cells := 0, slots := 0, locals := 0 }
abbrev gt_X6_stands : Type := (Nat × Int32) × (Nat × Nat × Nat × Nat) × (Int32 × Int32) × (Nat → Int32)
def pr_X6_stands : gt_X6_stands → List pz_V → pz_H → Prop := fun ((tx, x), (cm, sg, len, at'), (fa, ro), cf) av g => av = [.inr (.inr (some tx)), .inl x] ∧ len ≤ 500 ∧ at' ≤ 500 ∧ txS g tx cm sg len at' fa ro cf
def po_X6_stands : gt_X6_stands → List pz_V → pz_H → Option pz_V → pz_H → Prop := fun ((_, x), (_, _, len, at'), _, cf) _ g v g' => g' = g ∧ v = some (.inl (if tx_st len cf at' x = true then 1 else 0))
set_option maxRecDepth 20000 in
theorem ct_X6_stands {G : pz_Gx} (hOk : pz_OK G) (gh : gt_X6_stands) : pz_M G yX6_stands cX6_stands 2 (some .boolean) rm_X6_stands (pr_X6_stands gh) (po_X6_stands gh) := by
  obtain ⟨⟨tx, x⟩, ⟨cm, sg, len, at'⟩, ⟨fa, ro⟩, cf⟩ := gh
  refine pz_ofZ (by decide) hOk.1 (Or.inr (Or.inr (Or.inl rfl))) ?_ ?_
  · rintro av g ⟨rfl, -⟩
    exact Nat.le_of_ble_eq_true rfl
  · rintro X hX hGX hrm - av g ⟨rfl, hl, ha, ht, hs⟩ hR
    have no : tx_st len cf at' x = false → ∀ lv : pz_L, pz_Z X 2 28 lv [] g 0 0 := by
      intro h lv
      refine bX6_stands_28 hX _ _ _ _ _ ?_
      exact bX6_stands_29 hX hR _ _ _ _ _ ⟨Or.inl rfl, Nat.le_refl _, Nat.le_refl _, rfl, by rw [h]; rfl⟩
    refine bX6_stands_0 hX _ _ _ _ _ ⟨_, _, _, ht, rfl, _, _, _, ht, rfl, fun q => ?_, fun q => ?_⟩
    · have := (ni_le (by omega) (by omega)).mp q
      exact no (by unfold tx_st; rw [decide_eq_false (by omega)]; rfl) _
    · have hal : at' < len := by
        rcases Nat.lt_or_ge at' len with h | h
        · exact h
        · exact absurd ((ni_le (by omega) (by omega)).mpr h) q
      refine bX6_stands_11 hX _ _ _ _ _ ⟨_, _, _, ht, rfl, _, _, _, ht, rfl, _, _, _, hs, ni_in (by omega) (by omega), ?_⟩
      rw [ni_cl (by omega)]
      refine ⟨fun q2 => ?_, fun q2 => ?_⟩
      · exact no (by unfold tx_st; rw [decide_eq_false q2, Bool.and_false]) _
      · refine bX6_stands_24 hX _ _ _ _ _ ?_
        exact bX6_stands_29 hX hR _ _ _ _ _ ⟨Or.inr rfl, Nat.le_refl _, Nat.le_refl _, rfl, by unfold tx_st; rw [decide_eq_true hal, decide_eq_true q2]; rfl⟩
set_option maxRecDepth 20000 in
theorem bX6_parseSign_0 {X : pz_C} (hX : pz_X X cX6_parseSign 2 RX6) : ∀ lv st g c s, (zo_al 1 0 (zo_get 8 4 (zo_ic 1 (-1) (zo_ic_eq 9 (pz_Z X 2))))) 0 lv st g c s → pz_Z X 2 0 lv st g c s := (zs_aload_n hX dX6_parseSign_0 rfl (zs_get hX (C := RX6) (T := TX6) (N := 6) rfl in_X6 (by decide) mw_f486a86b dX6_parseSign_1 (zs_iconst hX dX6_parseSign_4 (by decide) (zs_ic_eq hX dX6_parseSign_5 (by decide) (fun _ _ _ _ _ _ h => h)))))
set_option maxRecDepth 20000 in
theorem bX6_parseSign_8 {X : pz_C} {rm : Room} {E : Option pz_V → pz_H → Prop} (hX : pz_X X cX6_parseSign 2 RX6) (hR : pz_Rt X cX6_parseSign 2 none rm E) : ∀ lv st g c s, (zo_rv rm E) 8 lv st g c s → pz_Z X 2 8 lv st g c s := (zs_rv hR dX6_parseSign_8)
set_option maxRecDepth 20000 in
theorem bX6_parseSign_9 {X : pz_C} (hX : pz_X X cX6_parseSign 2 RX6) : ∀ lv st g c s, (zo_al 1 0 (zo_il 1 1 (pz_Z X 2))) 9 lv st g c s → pz_Z X 2 9 lv st g c s := (zs_aload_n hX dX6_parseSign_9 rfl (zs_iload_n hX dX6_parseSign_10 rfl (fun _ _ _ _ _ h => h)))
set_option maxRecDepth 20000 in
theorem bX6_parseSign_11 {X : pz_C} {G : pz_Gx} {rm : Room} (hX : pz_X X cX6_parseSign 2 RX6) (hrm : pz_rm X = rm) (hGX : pz_GX X G) (hOk : pz_OK G) (gh : gt_X6_stands) (hr_X6_stands : rm_X6_stands.frames + 1 ≤ rm.frames ∧ 8 + (2 + 11) + rm_X6_stands.locals ≤ rm.locals) : ∀ lv st g c s, (zo_cV rm 8 1 3 rm_X6_stands.cells rm_X6_stands.slots (pr_X6_stands gh) (po_X6_stands gh) (zo_kz (zo_if_eq 30 (pz_Z X 2)))) 11 lv st g c s → pz_Z X 2 11 lv st g c s := by
  subst hrm
  exact (zs_csV hX hGX (C := RX6) (T := TX6) (N := 6) rfl (ct_X6_stands hOk gh) mw_fb379dcc mw_69bbb7ad mw_e772b8d6 mw_59af5b5a mw_b04f04b9 (by decide +kernel) hr_X6_stands dX6_parseSign_11 (zs_kz (zs_if_eq hX dX6_parseSign_14 (by decide) (fun _ _ _ _ _ _ h => h))))
set_option maxRecDepth 20000 in
theorem bX6_parseSign_17 {X : pz_C} (hX : pz_X X cX6_parseSign 2 RX6) : ∀ lv st g c s, (zo_al 1 0 (zo_dup (zo_get 8 3 (zo_ic 1 (1) (zo_iadd (zo_puti 8 3 (zo_goto 38 (pz_Z X 2)))))))) 17 lv st g c s → pz_Z X 2 17 lv st g c s := (zs_aload_n hX dX6_parseSign_17 rfl (zs_dup hX dX6_parseSign_18 (zs_get hX (C := RX6) (T := TX6) (N := 6) rfl in_X6 (by decide) mw_efbf8de0 dX6_parseSign_19 (zs_iconst hX dX6_parseSign_22 (by decide) (zs_iadd hX dX6_parseSign_23 (zs_puti hX (C := RX6) (T := TX6) (N := 6) rfl in_X6 (by decide) mw_efbf8de0 tyX6 tyX6_ok nmX6 (by decide +kernel) rfl dX6_parseSign_24 (zs_goto hX dX6_parseSign_27 (by decide) (fun _ _ _ _ _ _ h => h))))))))
set_option maxRecDepth 20000 in
theorem bX6_parseSign_30 {X : pz_C} (hX : pz_X X cX6_parseSign 2 RX6) : ∀ lv st g c s, (zo_al 1 0 (zo_al 1 0 (zo_get 8 3 (zo_puti 8 4 (pz_Z X 2))))) 30 lv st g c s → pz_Z X 2 30 lv st g c s := (zs_aload_n hX dX6_parseSign_30 rfl (zs_aload_n hX dX6_parseSign_31 rfl (zs_get hX (C := RX6) (T := TX6) (N := 6) rfl in_X6 (by decide) mw_efbf8de0 dX6_parseSign_32 (zs_puti hX (C := RX6) (T := TX6) (N := 6) rfl in_X6 (by decide) mw_f486a86b tyX6 tyX6_ok nmX6 (by decide +kernel) rfl dX6_parseSign_35 (fun _ _ _ _ _ h => h)))))
set_option maxRecDepth 20000 in
theorem bX6_parseSign_38 {X : pz_C} {rm : Room} {E : Option pz_V → pz_H → Prop} (hX : pz_X X cX6_parseSign 2 RX6) (hR : pz_Rt X cX6_parseSign 2 none rm E) : ∀ lv st g c s, (zo_rv rm E) 38 lv st g c s → pz_Z X 2 38 lv st g c s := (zs_rv hR dX6_parseSign_38)
/-- where the text stands and its fault, behind a sign -/
def tx_sg (len : Nat) (cf : Nat → Int32) (x : Int32) : Nat × Int32 → Nat × Int32 := fun (a, f) => if f = -1 then (if tx_st len cf a x = true then (a + 1, f) else (a, nI a)) else (a, f)
def rm_X6_parseSign : Room := { frames := 1, cells := 0, slots := 0, locals := 21 }
abbrev gt_X6_parseSign : Type := (Nat × Int32) × (Nat × Nat × Nat × Nat) × (Int32 × Int32) × (Nat → Int32)
def pr_X6_parseSign : gt_X6_parseSign → List pz_V → pz_H → Prop := fun ((tx, x), (cm, sg, len, at'), (fa, ro), cf) av g => av = [.inr (.inr (some tx)), .inl x] ∧ len ≤ 500 ∧ at' ≤ len ∧ txS g tx cm sg len at' fa ro cf
def po_X6_parseSign : gt_X6_parseSign → List pz_V → pz_H → Option pz_V → pz_H → Prop := fun ((tx, x), (cm, sg, len, at'), (fa, ro), cf) _ g v g' => v = none ∧ hg (fun b => b = [4]) g g' ∧ txS g' tx cm sg len (tx_sg len cf x (at', fa)).1 (tx_sg len cf x (at', fa)).2 ro cf
theorem tx_st_lt {len a : Nat} {cf : Nat → Int32} {x : Int32} (h : tx_st len cf a x = true) : a < len := by
  unfold tx_st at h
  rw [Bool.and_eq_true] at h
  exact of_decide_eq_true h.1
theorem tx_sg_le {len : Nat} {cf : Nat → Int32} {x : Int32} {s : Nat × Int32} (h : s.1 ≤ len) : (tx_sg len cf x s).1 ≤ len := by
  obtain ⟨a, f⟩ := s
  unfold tx_sg
  dsimp only
  split
  · split
    · have := tx_st_lt (by assumption)
      dsimp only; omega
    · exact h
  · exact h
set_option maxRecDepth 20000 in
theorem ct_X6_parseSign {G : pz_Gx} (hOk : pz_OK G) (gh : gt_X6_parseSign) : pz_M G yX6_parseSign cX6_parseSign 2 none rm_X6_parseSign (pr_X6_parseSign gh) (po_X6_parseSign gh) := by
  obtain ⟨⟨tx, x⟩, ⟨cm, sg, len, at'⟩, ⟨fa, ro⟩, cf⟩ := gh
  refine pz_ofZ (by decide) hOk.1 (Or.inl rfl) ?_ ?_
  · rintro av g ⟨rfl, -⟩
    exact Nat.le_of_ble_eq_true rfl
  · rintro X hX hGX hrm - av g ⟨rfl, hl, ha, ht, hs⟩ hR
    refine bX6_parseSign_0 hX _ _ _ _ _ ⟨_, _, _, ht, rfl, fun q => ?_, fun q => ?_⟩
    · subst q
      refine bX6_parseSign_9 hX _ _ _ _ _ ?_
      refine bX6_parseSign_11 hX hrm hGX hOk ((tx, x), (cm, sg, len, at'), (-1, ro), cf) (by decide) _ _ _ _ _ ⟨Nat.le_of_ble_eq_true rfl, ⟨tx, [.inl x], [4], _, rfl, ht⟩, Nat.le_of_ble_eq_true rfl, Nat.le_of_ble_eq_true rfl, Nat.le_of_ble_eq_true rfl, ⟨rfl, hl, by omega, ht, hs⟩, ?_⟩
      rintro v g2 ⟨rfl, rfl⟩ y hy -
      cases hy
      by_cases h : tx_st len cf at' x = true
      · rw [if_pos h]
        refine ⟨fun z => absurd z (by decide), fun _ => ?_⟩
        refine bX6_parseSign_17 hX _ _ _ _ _ ⟨rfl, _, _, _, ht, rfl, _, _, ht, Nat.le_of_ble_eq_true rfl, ?_⟩
        refine bX6_parseSign_38 hX hR _ _ _ _ _ ⟨Nat.le_refl _, Nat.le_refl _, rfl, hg_up hg_rf ht rfl, ?_, up_ne hs ht (by simp)⟩
        unfold tx_sg
        dsimp only
        rw [up_at, if_pos rfl, if_pos h, nI_1]
        rfl
      · rw [if_neg h]
        refine ⟨fun _ => ?_, fun z => absurd rfl z⟩
        refine bX6_parseSign_30 hX _ _ _ _ _ ⟨_, _, _, ht, rfl, _, _, ht, Nat.le_of_ble_eq_true rfl, ?_⟩
        refine bX6_parseSign_38 hX hR _ _ _ _ _ ⟨Nat.le_refl _, Nat.le_refl _, rfl, hg_up hg_rf ht rfl, ?_, up_ne hs ht (by simp)⟩
        unfold tx_sg
        dsimp only
        rw [up_at, if_pos rfl, if_neg h]
        rfl
    · refine bX6_parseSign_8 hX hR _ _ _ _ _ ⟨Nat.le_refl _, Nat.le_refl _, rfl, hg_rf, ?_⟩
      unfold tx_sg
      dsimp only
      rw [if_neg q]
      exact ⟨ht, hs⟩
set_option maxRecDepth 20000 in
theorem bX6_parseNumber_0 {X : pz_C} (hX : pz_X X cX6_parseNumber 5 RX6) : ∀ lv st g c s, (zo_al 1 0 (zo_get 8 4 (zo_ic 1 (-1) (zo_ic_eq 10 (pz_Z X 5))))) 0 lv st g c s → pz_Z X 5 0 lv st g c s := (zs_aload_n hX dX6_parseNumber_0 rfl (zs_get hX (C := RX6) (T := TX6) (N := 6) rfl in_X6 (by decide) mw_f486a86b dX6_parseNumber_1 (zs_iconst hX dX6_parseNumber_4 (by decide) (zs_ic_eq hX dX6_parseNumber_5 (by decide) (fun _ _ _ _ _ _ h => h)))))
set_option maxRecDepth 20000 in
theorem bX6_parseNumber_8 {X : pz_C} {rm : Room} {E : Option pz_V → pz_H → Prop} (hX : pz_X X cX6_parseNumber 5 RX6) (hR : pz_Rt X cX6_parseNumber 5 (some .int) rm E) : ∀ lv st g c s, (zo_ic 1 (0) (zo_ri rm E)) 8 lv st g c s → pz_Z X 5 8 lv st g c s := (zs_iconst hX dX6_parseNumber_8 (by decide) (zs_ri hR dX6_parseNumber_9))
set_option maxRecDepth 20000 in
theorem bX6_parseNumber_10 {X : pz_C} (hX : pz_X X cX6_parseNumber 5 RX6) : ∀ lv st g c s, (zo_al 1 0 (zo_get 8 3 (zo_is 1 3 (zo_ic 1 (0) (zo_is 2 4 (pz_Z X 5)))))) 10 lv st g c s → pz_Z X 5 10 lv st g c s := (zs_aload_n hX dX6_parseNumber_10 rfl (zs_get hX (C := RX6) (T := TX6) (N := 6) rfl in_X6 (by decide) mw_efbf8de0 dX6_parseNumber_11 (zs_istore_n hX dX6_parseNumber_14 rfl (by decide) (zs_iconst hX dX6_parseNumber_15 (by decide) (zs_istore hX dX6_parseNumber_16 (by decide) (fun _ _ _ _ _ h => h))))))
set_option maxRecDepth 20000 in
theorem bX6_parseNumber_18 {X : pz_C} (hX : pz_X X cX6_parseNumber 5 RX6) : ∀ lv st g c s, (zo_al 1 0 (zo_get 8 3 (zo_al 1 0 (zo_get 8 1 (zo_ic_ge 101 (pz_Z X 5)))))) 18 lv st g c s → pz_Z X 5 18 lv st g c s := (zs_aload_n hX dX6_parseNumber_18 rfl (zs_get hX (C := RX6) (T := TX6) (N := 6) rfl in_X6 (by decide) mw_efbf8de0 dX6_parseNumber_19 (zs_aload_n hX dX6_parseNumber_22 rfl (zs_get hX (C := RX6) (T := TX6) (N := 6) rfl in_X6 (by decide) mw_526baddf dX6_parseNumber_23 (zs_ic_ge hX dX6_parseNumber_26 (by decide) (fun _ _ _ _ _ _ h => h))))))
set_option maxRecDepth 20000 in
theorem bX6_parseNumber_29 {X : pz_C} (hX : pz_X X cX6_parseNumber 5 RX6) : ∀ lv st g c s, (zo_al 1 0 (zo_get 8 3 (zo_il 1 3 (zo_ic 2 (6) (zo_iadd (zo_ic_ge 101 (pz_Z X 5))))))) 29 lv st g c s → pz_Z X 5 29 lv st g c s := (zs_aload_n hX dX6_parseNumber_29 rfl (zs_get hX (C := RX6) (T := TX6) (N := 6) rfl in_X6 (by decide) mw_efbf8de0 dX6_parseNumber_30 (zs_iload_n hX dX6_parseNumber_33 rfl (zs_bipush hX dX6_parseNumber_34 (by decide) (zs_iadd hX dX6_parseNumber_36 (zs_ic_ge hX dX6_parseNumber_37 (by decide) (fun _ _ _ _ _ _ h => h)))))))
set_option maxRecDepth 20000 in
theorem bX6_parseNumber_40 {X : pz_C} (hX : pz_X X cX6_parseNumber 5 RX6) : ∀ lv st g c s, (zo_al 1 0 (zo_get 8 2 (zo_al 1 0 (zo_get 8 3 (zo_cald (zo_ic 2 (48) (zo_ic_lt 101 (pz_Z X 5)))))))) 40 lv st g c s → pz_Z X 5 40 lv st g c s := (zs_aload_n hX dX6_parseNumber_40 rfl (zs_get hX (C := RX6) (T := TX6) (N := 6) rfl in_X6 (by decide) mw_1d02cde0 dX6_parseNumber_41 (zs_aload_n hX dX6_parseNumber_44 rfl (zs_get hX (C := RX6) (T := TX6) (N := 6) rfl in_X6 (by decide) mw_efbf8de0 dX6_parseNumber_45 (zs_cald hX dX6_parseNumber_48 (zs_bipush hX dX6_parseNumber_49 (by decide) (zs_ic_lt hX dX6_parseNumber_51 (by decide) (fun _ _ _ _ _ _ h => h))))))))
set_option maxRecDepth 20000 in
theorem bX6_parseNumber_54 {X : pz_C} (hX : pz_X X cX6_parseNumber 5 RX6) : ∀ lv st g c s, (zo_al 1 0 (zo_get 8 2 (zo_al 1 0 (zo_get 8 3 (zo_cald (zo_ic 2 (57) (zo_ic_gt 101 (pz_Z X 5)))))))) 54 lv st g c s → pz_Z X 5 54 lv st g c s := (zs_aload_n hX dX6_parseNumber_54 rfl (zs_get hX (C := RX6) (T := TX6) (N := 6) rfl in_X6 (by decide) mw_1d02cde0 dX6_parseNumber_55 (zs_aload_n hX dX6_parseNumber_58 rfl (zs_get hX (C := RX6) (T := TX6) (N := 6) rfl in_X6 (by decide) mw_efbf8de0 dX6_parseNumber_59 (zs_cald hX dX6_parseNumber_62 (zs_bipush hX dX6_parseNumber_63 (by decide) (zs_ic_gt hX dX6_parseNumber_65 (by decide) (fun _ _ _ _ _ _ h => h))))))))
set_option maxRecDepth 20000 in
theorem bX6_parseNumber_68 {X : pz_C} (hX : pz_X X cX6_parseNumber 5 RX6) : ∀ lv st g c s, (zo_ic 2 (10) (zo_il 2 4 (zo_imul (zo_al 1 0 (zo_get 8 2 (zo_al 1 0 (zo_get 8 3 (zo_cald (zo_ic 2 (48) (zo_isub (zo_iadd (zo_is 2 4 (zo_al 1 0 (zo_dup (zo_get 8 3 (zo_ic 1 (1) (zo_iadd (zo_puti 8 3 (zo_goto 18 (pz_Z X 5)))))))))))))))))))) 68 lv st g c s → pz_Z X 5 68 lv st g c s := (zs_bipush hX dX6_parseNumber_68 (by decide) (zs_iload hX dX6_parseNumber_70 (zs_imul hX dX6_parseNumber_72 (zs_aload_n hX dX6_parseNumber_73 rfl (zs_get hX (C := RX6) (T := TX6) (N := 6) rfl in_X6 (by decide) mw_1d02cde0 dX6_parseNumber_74 (zs_aload_n hX dX6_parseNumber_77 rfl (zs_get hX (C := RX6) (T := TX6) (N := 6) rfl in_X6 (by decide) mw_efbf8de0 dX6_parseNumber_78 (zs_cald hX dX6_parseNumber_81 (zs_bipush hX dX6_parseNumber_82 (by decide) (zs_isub hX dX6_parseNumber_84 (zs_iadd hX dX6_parseNumber_85 (zs_istore hX dX6_parseNumber_86 (by decide) (zs_aload_n hX dX6_parseNumber_88 rfl (zs_dup hX dX6_parseNumber_89 (zs_get hX (C := RX6) (T := TX6) (N := 6) rfl in_X6 (by decide) mw_efbf8de0 dX6_parseNumber_90 (zs_iconst hX dX6_parseNumber_93 (by decide) (zs_iadd hX dX6_parseNumber_94 (zs_puti hX (C := RX6) (T := TX6) (N := 6) rfl in_X6 (by decide) mw_efbf8de0 tyX6 tyX6_ok nmX6 (by decide +kernel) rfl dX6_parseNumber_95 (zs_goto hX dX6_parseNumber_98 (by decide) (fun _ _ _ _ _ _ h => h))))))))))))))))))))
set_option maxRecDepth 20000 in
theorem bX6_parseNumber_101 {X : pz_C} (hX : pz_X X cX6_parseNumber 5 RX6) : ∀ lv st g c s, (zo_al 1 0 (zo_get 8 3 (zo_il 1 3 (zo_ic_eq 121 (pz_Z X 5))))) 101 lv st g c s → pz_Z X 5 101 lv st g c s := (zs_aload_n hX dX6_parseNumber_101 rfl (zs_get hX (C := RX6) (T := TX6) (N := 6) rfl in_X6 (by decide) mw_efbf8de0 dX6_parseNumber_102 (zs_iload_n hX dX6_parseNumber_105 rfl (zs_ic_eq hX dX6_parseNumber_106 (by decide) (fun _ _ _ _ _ _ h => h)))))
set_option maxRecDepth 20000 in
theorem bX6_parseNumber_109 {X : pz_C} (hX : pz_X X cX6_parseNumber 5 RX6) : ∀ lv st g c s, (zo_il 2 4 (zo_il 1 1 (zo_ic_lt 121 (pz_Z X 5)))) 109 lv st g c s → pz_Z X 5 109 lv st g c s := (zs_iload hX dX6_parseNumber_109 (zs_iload_n hX dX6_parseNumber_111 rfl (zs_ic_lt hX dX6_parseNumber_112 (by decide) (fun _ _ _ _ _ _ h => h))))
set_option maxRecDepth 20000 in
theorem bX6_parseNumber_115 {X : pz_C} (hX : pz_X X cX6_parseNumber 5 RX6) : ∀ lv st g c s, (zo_il 2 4 (zo_il 1 2 (zo_ic_le 126 (pz_Z X 5)))) 115 lv st g c s → pz_Z X 5 115 lv st g c s := (zs_iload hX dX6_parseNumber_115 (zs_iload_n hX dX6_parseNumber_117 rfl (zs_ic_le hX dX6_parseNumber_118 (by decide) (fun _ _ _ _ _ _ h => h))))
set_option maxRecDepth 20000 in
theorem bX6_parseNumber_121 {X : pz_C} (hX : pz_X X cX6_parseNumber 5 RX6) : ∀ lv st g c s, (zo_al 1 0 (zo_il 1 3 (zo_puti 8 4 (pz_Z X 5)))) 121 lv st g c s → pz_Z X 5 121 lv st g c s := (zs_aload_n hX dX6_parseNumber_121 rfl (zs_iload_n hX dX6_parseNumber_122 rfl (zs_puti hX (C := RX6) (T := TX6) (N := 6) rfl in_X6 (by decide) mw_f486a86b tyX6 tyX6_ok nmX6 (by decide +kernel) rfl dX6_parseNumber_123 (fun _ _ _ _ _ h => h))))
set_option maxRecDepth 20000 in
theorem bX6_parseNumber_126 {X : pz_C} {rm : Room} {E : Option pz_V → pz_H → Prop} (hX : pz_X X cX6_parseNumber 5 RX6) (hR : pz_Rt X cX6_parseNumber 5 (some .int) rm E) : ∀ lv st g c s, (zo_il 2 4 (zo_ri rm E)) 126 lv st g c s → pz_Z X 5 126 lv st g c s := (zs_iload hX dX6_parseNumber_126 (zs_ri hR dX6_parseNumber_128))
/-- the digits from a on, k at most: where they end, and the number -/
def tx_dg (len : Nat) (cf : Nat → Int32) : Nat → Nat → Int32 → Nat × Int32
  | 0, a, x => (a, x)
  | k + 1, a, x => if a < len ∧ 48 ≤ cf a ∧ cf a ≤ 57 then tx_dg len cf k (a + 1) (10 * x + (cf a - 48)) else (a, x)
def tx_nu (len : Nat) (cf : Nat → Int32) (lo hi : Int32) : Nat × Int32 → (Nat × Int32) × Int32 := fun (a, f) => if f = -1 then (((tx_dg len cf 6 a 0).1, if (tx_dg len cf 6 a 0).1 = a ∨ (tx_dg len cf 6 a 0).2 < lo ∨ hi < (tx_dg len cf 6 a 0).2 then nI a else -1), (tx_dg len cf 6 a 0).2) else ((a, f), 0)
theorem tx_dg_le {len : Nat} {cf : Nat → Int32} : ∀ (k a : Nat) (x : Int32), a ≤ len → a ≤ (tx_dg len cf k a x).1 ∧ (tx_dg len cf k a x).1 ≤ len
  | 0, a, x, h => ⟨Nat.le_refl _, h⟩
  | k + 1, a, x, h => by
    unfold tx_dg
    split
    · rename_i hc
      have := tx_dg_le (len := len) (cf := cf) k (a + 1) (10 * x + (cf a - 48)) (by omega)
      exact ⟨by omega, this.2⟩
    · exact ⟨Nat.le_refl _, h⟩
def rm_X6_parseNumber : Room := { frames := 0, cells := 0, slots := 0, locals := 0 }
abbrev gt_X6_parseNumber : Type := (Nat × Int32 × Int32) × (Nat × Nat × Nat × Nat) × (Int32 × Int32) × (Nat → Int32)
def pr_X6_parseNumber : gt_X6_parseNumber → List pz_V → pz_H → Prop := fun ((tx, lo, hi), (cm, sg, len, at'), (fa, ro), cf) av g => av = [.inr (.inr (some tx)), .inl lo, .inl hi] ∧ len ≤ 500 ∧ at' ≤ len ∧ txS g tx cm sg len at' fa ro cf
def po_X6_parseNumber : gt_X6_parseNumber → List pz_V → pz_H → Option pz_V → pz_H → Prop := fun ((tx, lo, hi), (cm, sg, len, at'), (fa, ro), cf) _ g v g' => v = some (.inl (tx_nu len cf lo hi (at', fa)).2) ∧ hg (fun b => b = [4]) g g' ∧ txS g' tx cm sg len (tx_nu len cf lo hi (at', fa)).1.1 (tx_nu len cf lo hi (at', fa)).1.2 ro cf
set_option maxRecDepth 20000 in
set_option maxHeartbeats 4000000 in
theorem ct_X6_parseNumber {G : pz_Gx} (hOk : pz_OK G) (gh : gt_X6_parseNumber) : pz_M G yX6_parseNumber cX6_parseNumber 5 (some .int) rm_X6_parseNumber (pr_X6_parseNumber gh) (po_X6_parseNumber gh) := by
  obtain ⟨⟨tx, lo, hi⟩, ⟨cm, sg, len, at'⟩, ⟨fa, ro⟩, cf⟩ := gh
  refine pz_ofZ (by decide) hOk.1 (Or.inr (Or.inl rfl)) ?_ ?_
  · rintro av g ⟨rfl, -⟩
    exact Nat.le_of_ble_eq_true rfl
  · rintro X hX hGX hrm - av g ⟨rfl, hl, ha, ht, hs⟩ hR
    refine bX6_parseNumber_0 hX _ _ _ _ _ ⟨_, _, _, ht, rfl, fun q => ?_, fun q => ?_⟩
    · subst q
      have hnu : tx_nu len cf lo hi (at', -1) = (((tx_dg len cf 6 at' 0).1, if (tx_dg len cf 6 at' 0).1 = at' ∨ (tx_dg len cf 6 at' 0).2 < lo ∨ hi < (tx_dg len cf 6 at' 0).2 then nI at' else -1), (tx_dg len cf 6 at' 0).2) := by
        unfold tx_nu
        dsimp only
        rw [if_pos rfl]
      have fin : ∀ (a : Nat) (x : Int32) (gk : pz_H), (a, x) = tx_dg len cf 6 at' 0 → a ≤ 500 → hg (fun b => b = [4]) g gk → txS gk tx cm sg len a (-1) ro cf → pz_Z X 5 101 [(4, .inl x), (3, .inl (nI at')), (0, .inr (.inr (some tx))), (1, .inl lo), (2, .inl hi)] [] gk 0 0 := by
        intro a x gk he ha5 hS hv
        rw [← he] at hnu
        dsimp only at hnu
        have bad : (a = at' ∨ x < lo ∨ hi < x) → ∀ lv : pz_L, pz_all lv [(4, .inl x), (3, .inl (nI at')), (0, .inr (.inr (some tx)))] → pz_Z X 5 121 lv [] gk 0 0 := by
          intro hb lv hlv
          refine pz_lsub hlv ?_
          refine bX6_parseNumber_121 hX _ _ _ _ _ ⟨_, _, hv.1, Nat.le_of_ble_eq_true rfl, ?_⟩
          refine bX6_parseNumber_126 hX hR _ _ _ _ _ ⟨Nat.le_refl _, Nat.le_refl _, ?_, hg_up hS hv.1 rfl, ?_, ?_⟩
          · rw [hnu]
          · rw [hnu, up_at, if_pos hb]; rfl
          · exact up_ne hv.2 hv.1 (by simp)
        refine bX6_parseNumber_101 hX _ _ _ _ _ ⟨_, _, _, hv.1, rfl, fun q => ?_, fun q => ?_⟩
        · exact bad (Or.inl (ni_inj (by omega) (by omega) q)) _ ⟨rfl, rfl, rfl, trivial⟩
        refine bX6_parseNumber_109 hX _ _ _ _ _ ⟨fun q2 => ?_, fun q2 => ?_⟩
        · exact bad (Or.inr (Or.inl q2)) _ ⟨rfl, rfl, rfl, trivial⟩
        refine bX6_parseNumber_115 hX _ _ _ _ _ ⟨fun q3 => ?_, fun q3 => ?_⟩
        · have hnb : ¬ (a = at' ∨ x < lo ∨ hi < x) := by
            rintro (h | h | h)
            · exact q (by rw [h])
            · exact q2 h
            · exact absurd h (Int32.not_lt.mpr q3)
          refine bX6_parseNumber_126 hX hR _ _ _ _ _ ⟨Nat.le_refl _, Nat.le_refl _, ?_, hS, ?_⟩
          · rw [hnu]
          · rw [hnu, if_neg hnb]; exact hv
        · exact bad (Or.inr (Or.inr (Int32.not_le.mp q3))) _ ⟨rfl, rfl, rfl, trivial⟩
      have loop : ∀ (k a : Nat) (x : Int32) (gk : pz_H), a + k = at' + 6 → a ≤ len → tx_dg len cf k a x = tx_dg len cf 6 at' 0 → hg (fun b => b = [4]) g gk → txS gk tx cm sg len a (-1) ro cf → pz_Z X 5 18 [(4, .inl x), (3, .inl (nI at')), (0, .inr (.inr (some tx))), (1, .inl lo), (2, .inl hi)] [] gk 0 0 := by
        intro k
        induction k with
        | zero =>
          intro a x gk hak hal he hS hv
          refine bX6_parseNumber_18 hX _ _ _ _ _ ⟨_, _, _, hv.1, rfl, _, _, _, hv.1, rfl, fun q => ?_, fun q => ?_⟩
          · exact fin a x gk he (by omega) hS hv
          · refine bX6_parseNumber_29 hX _ _ _ _ _ ⟨_, _, _, hv.1, rfl, fun q2 => ?_, fun q2 => ?_⟩
            · exact fin a x gk he (by omega) hS hv
            · refine absurd ?_ q2
              rw [show nI at' + 6 = nI (at' + 6) from nI_add at' 6]
              exact (ni_le (by omega) (by omega)).mpr (by omega)
        | succ k ih =>
          intro a x gk hak hal he hS hv
          have he' : (if a < len ∧ 48 ≤ cf a ∧ cf a ≤ 57 then tx_dg len cf k (a + 1) (10 * x + (cf a - 48)) else (a, x)) = tx_dg len cf 6 at' 0 := he
          have out : ¬ (a < len ∧ 48 ≤ cf a ∧ cf a ≤ 57) → pz_Z X 5 101 [(4, .inl x), (3, .inl (nI at')), (0, .inr (.inr (some tx))), (1, .inl lo), (2, .inl hi)] [] gk 0 0 := by
            intro hno
            rw [if_neg hno] at he'
            exact fin a x gk he' (by omega) hS hv
          refine bX6_parseNumber_18 hX _ _ _ _ _ ⟨_, _, _, hv.1, rfl, _, _, _, hv.1, rfl, fun q => ?_, fun q => ?_⟩
          · exact out (fun z => absurd z.1 (by have := (ni_le (by omega) (by omega)).mp q; omega))
          have hal2 : a < len := by
            rcases Nat.lt_or_ge a len with h | h
            · exact h
            · exact absurd ((ni_le (by omega) (by omega)).mpr h) q
          refine bX6_parseNumber_29 hX _ _ _ _ _ ⟨_, _, _, hv.1, rfl, fun q2 => ?_, fun q2 => ?_⟩
          · rw [show nI at' + 6 = nI (at' + 6) from nI_add at' 6] at q2
            exact absurd ((ni_le (by omega) (by omega)).mp q2) (by omega)
          have hai : vp_in (nI a) 500 := ni_in (by omega) (by omega)
          have hac : (nI a).toNatClampNeg = a := ni_cl (by omega)
          refine bX6_parseNumber_40 hX _ _ _ _ _ ⟨_, _, _, hv.1, rfl, _, _, _, hv.1, rfl, _, _, _, hv.2, hai, ?_⟩
          rw [hac]
          refine ⟨fun q3 => ?_, fun q3 => ?_⟩
          · exact out (fun z => absurd z.2.1 (Int32.not_le.mpr q3))
          refine bX6_parseNumber_54 hX _ _ _ _ _ ⟨_, _, _, hv.1, rfl, _, _, _, hv.1, rfl, _, _, _, hv.2, hai, ?_⟩
          rw [hac]
          refine ⟨fun q4 => ?_, fun q4 => ?_⟩
          · exact out (fun z => absurd z.2.2 (Int32.not_le.mpr q4))
          rw [if_pos ⟨hal2, Int32.not_lt.mp q3, Int32.not_lt.mp q4⟩] at he'
          refine bX6_parseNumber_68 hX _ _ _ _ _ ⟨_, _, _, hv.1, rfl, _, _, _, hv.1, rfl, _, _, _, hv.2, hai, rfl, _, _, _, hv.1, rfl, _, _, hv.1, Nat.le_of_ble_eq_true rfl, ?_⟩
          rw [hac]
          refine pz_lsub (lv' := [(4, .inl (10 * x + (cf a - 48))), (3, .inl (nI at')), (0, .inr (.inr (some tx))), (1, .inl lo), (2, .inl hi)]) ⟨rfl, rfl, rfl, rfl, rfl, trivial⟩ ?_
          refine ih (a + 1) (10 * x + (cf a - 48)) _ (by omega) (by omega) he' (hg_up hS hv.1 rfl) ⟨?_, up_ne hv.2 hv.1 (by simp)⟩
          rw [up_at, nI_1]
          rfl
      refine bX6_parseNumber_10 hX _ _ _ _ _ ⟨_, _, _, ht, rfl, ?_⟩
      refine pz_lsub (lv' := [(4, .inl 0), (3, .inl (nI at')), (0, .inr (.inr (some tx))), (1, .inl lo), (2, .inl hi)]) ⟨rfl, rfl, rfl, rfl, rfl, trivial⟩ ?_
      exact loop 6 at' 0 g rfl ha rfl hg_rf ⟨ht, hs⟩
    · have hnu : tx_nu len cf lo hi (at', fa) = ((at', fa), 0) := by
        unfold tx_nu
        dsimp only
        rw [if_neg q]
      refine bX6_parseNumber_8 hX hR _ _ _ _ _ ⟨Nat.le_refl _, Nat.le_refl _, ?_, hg_rf, ?_⟩
      · rw [hnu]
      · rw [hnu]; exact ⟨ht, hs⟩
