/-! LineTimes$Net: its own cells -/
def ntS (g : pz_H) (nt la pa na sa : Nat) (fd : Int32) (Wa : Nat → Nat) : Prop := g nt = some ([1], .inr (6, [.inr (.inr (some la)), .inr (.inr (some pa)), .inr (.inr (some na)), .inr (.inr (some sa)), .inl fd])) ∧ ∃ o, g na = some ([10], ar_r 6 7 o) ∧ ∀ i, i < 7 → o i = some (Wa i)
theorem ntS_mono {g g' : pz_H} {S : List Nat → Prop} (hh : hg S g g') {nt la pa na sa : Nat} {fd : Int32} {Wa : Nat → Nat} (hS : ¬ S [1] ∧ ¬ S [10]) (h : ntS g nt la pa na sa fd Wa) : ntS g' nt la pa na sa fd Wa := by
  obtain ⟨h1, o, h2, h3⟩ := h
  exact ⟨hh _ _ _ h1 hS.1, o, hh _ _ _ h2 hS.2, h3⟩
/-- may a run be entered at a place reached at w with lb legs, changing in c, when it leaves at l -/
def nt_ce (w : Int32) (lb : Nat) (c l : Int32) : Bool := if w = 2147483647 then false else decide ((if lb = 0 then w else w + c) ≤ l)
set_option maxRecDepth 20000 in
theorem bX4_canEnter_0 {X : pz_C} (hX : pz_X X cX4_canEnter 5 RX4) : ∀ lv st g c s, (zo_al 1 0 (zo_get 6 2 (zo_il 1 3 (zo_aald 6 (zo_il 1 1 (zo_iald (zo_is 2 4 (zo_il 2 4 (zo_ic 2 (2147483647) (zo_ic_ne 19 (pz_Z X 5))))))))))) 0 lv st g c s → pz_Z X 5 0 lv st g c s := (zs_aload_n hX dX4_canEnter_0 rfl (zs_get hX (C := RX4) (T := TX4) (N := 5) rfl in_X4 (by decide) mw_e3f537a3 dX4_canEnter_1 (zs_iload_n hX dX4_canEnter_4 rfl (zs_aald hX (ty := (.array .int)) (fun _ => rfl) rfl dX4_canEnter_5 (zs_iload_n hX dX4_canEnter_6 rfl (zs_iald hX dX4_canEnter_7 (zs_istore hX dX4_canEnter_8 (by decide) (zs_iload hX dX4_canEnter_10 (zs_ldc hX dX4_canEnter_12 mw_9b89bef2 (zs_ic_ne hX dX4_canEnter_14 (by decide) (fun _ _ _ _ _ _ h => h)))))))))))
set_option maxRecDepth 20000 in
theorem bX4_canEnter_17 {X : pz_C} {rm : Room} {E : Option pz_V → pz_H → Prop} (hX : pz_X X cX4_canEnter 5 RX4) (hR : pz_Rt X cX4_canEnter 5 (some .boolean) rm E) : ∀ lv st g c s, (zo_ic 1 (0) (zo_rz rm E)) 17 lv st g c s → pz_Z X 5 17 lv st g c s := (zs_iconst hX dX4_canEnter_17 (by decide) (zs_rz hR dX4_canEnter_18))
set_option maxRecDepth 20000 in
theorem bX4_canEnter_19 {X : pz_C} (hX : pz_X X cX4_canEnter 5 RX4) : ∀ lv st g c s, (zo_il 1 2 (zo_il 1 3 (zo_if_ne 29 (pz_Z X 5)))) 19 lv st g c s → pz_Z X 5 19 lv st g c s := (zs_iload_n hX dX4_canEnter_19 rfl (zs_iload_n hX dX4_canEnter_20 rfl (zs_if_ne hX dX4_canEnter_21 (by decide) (fun _ _ _ _ _ _ h => h))))
set_option maxRecDepth 20000 in
theorem bX4_canEnter_24 {X : pz_C} (hX : pz_X X cX4_canEnter 5 RX4) : ∀ lv st g c s, (zo_il 2 4 (zo_goto 41 (pz_Z X 5))) 24 lv st g c s → pz_Z X 5 24 lv st g c s := (zs_iload hX dX4_canEnter_24 (zs_goto hX dX4_canEnter_26 (by decide) (fun _ _ _ _ _ _ h => h)))
set_option maxRecDepth 20000 in
theorem bX4_canEnter_29 {X : pz_C} (hX : pz_X X cX4_canEnter 5 RX4) : ∀ lv st g c s, (zo_il 2 4 (zo_al 1 0 (zo_get 6 1 (zo_il 1 1 (zo_aald 4 (zo_get 7 2 (zo_iadd (pz_Z X 5)))))))) 29 lv st g c s → pz_Z X 5 29 lv st g c s := (zs_iload hX dX4_canEnter_29 (zs_aload_n hX dX4_canEnter_31 rfl (zs_get hX (C := RX4) (T := TX4) (N := 5) rfl in_X4 (by decide) mw_41e0f833 dX4_canEnter_32 (zs_iload_n hX dX4_canEnter_35 rfl (zs_aald hX (ty := (.object "LineTimes$Place")) (fun _ => rfl) rfl dX4_canEnter_36 (zs_get hX (C := RX5) (T := TX5) (N := 3) rfl in_X5 (by decide) mw_a7a2a259 dX4_canEnter_37 (zs_iadd hX dX4_canEnter_40 (fun _ _ _ _ _ h => h))))))))
set_option maxRecDepth 20000 in
theorem bX4_canEnter_41 {X : pz_C} (hX : pz_X X cX4_canEnter 5 RX4) : ∀ lv st g c s, (zo_ic_lt 48 (pz_Z X 5)) 41 lv st g c s → pz_Z X 5 41 lv st g c s := (zs_ic_lt hX dX4_canEnter_41 (by decide) (fun _ _ _ _ _ _ h => h))
set_option maxRecDepth 20000 in
theorem bX4_canEnter_44 {X : pz_C} (hX : pz_X X cX4_canEnter 5 RX4) : ∀ lv st g c s, (zo_ic 1 (1) (zo_goto 49 (pz_Z X 5))) 44 lv st g c s → pz_Z X 5 44 lv st g c s := (zs_iconst hX dX4_canEnter_44 (by decide) (zs_goto hX dX4_canEnter_45 (by decide) (fun _ _ _ _ _ _ h => h)))
set_option maxRecDepth 20000 in
theorem bX4_canEnter_48 {X : pz_C} (hX : pz_X X cX4_canEnter 5 RX4) : ∀ lv st g c s, (zo_ic 1 (0) (pz_Z X 5)) 48 lv st g c s → pz_Z X 5 48 lv st g c s := (zs_iconst hX dX4_canEnter_48 (by decide) (fun _ _ _ _ _ h => h))
set_option maxRecDepth 20000 in
theorem bX4_canEnter_49 {X : pz_C} {rm : Room} {E : Option pz_V → pz_H → Prop} (hX : pz_X X cX4_canEnter 5 RX4) (hR : pz_Rt X cX4_canEnter 5 (some .boolean) rm E) : ∀ lv st g c s, (zo_rz rm E) 49 lv st g c s → pz_Z X 5 49 lv st g c s := (zs_rz hR dX4_canEnter_49)
def rm_X4_canEnter : Room := { frames := 0, cells := 0, slots := 0, locals := 0 }
abbrev gt_X4_canEnter : Type := (Nat × Nat × Int32 × Nat) × (Nat × Nat × Nat × Nat) × Int32 × (Nat → Nat) × (Nat → Int32) × ((Nat → Nat) × (Nat → List (Int32 × Int32)) × (Nat → Int32) × (Nat → Int32))
def pr_X4_canEnter : gt_X4_canEnter → List pz_V → pz_H → Prop := fun ((nt, p, l, lb), (la, pa, na, sa), fd, Wa, w, (fp, Z, N, C)) av g => av = [.inr (.inr (some nt)), .inl (nI p), .inl l, .inl (nI lb)] ∧ p < 100 ∧ lb < 7 ∧ ntS g nt la pa na sa fd Wa ∧ g (Wa lb) = some ([11, lb], ar_i 100 w) ∧ plS g pa fp Z N C
def po_X4_canEnter : gt_X4_canEnter → List pz_V → pz_H → Option pz_V → pz_H → Prop := fun ((_, p, l, lb), _, _, _, w, (_, _, _, C)) _ g v g' => g' = g ∧ v = some (.inl (if nt_ce (w p) lb (C p) l = true then 1 else 0))
set_option maxRecDepth 20000 in
theorem ct_X4_canEnter {G : pz_Gx} (hOk : pz_OK G) (gh : gt_X4_canEnter) : pz_M G yX4_canEnter cX4_canEnter 5 (some .boolean) rm_X4_canEnter (pr_X4_canEnter gh) (po_X4_canEnter gh) := by
  obtain ⟨⟨nt, p, l, lb⟩, ⟨la, pa, na, sa⟩, fd, Wa, w, fp, Z, N, C⟩ := gh
  refine pz_ofZ (by decide) hOk.1 (Or.inr (Or.inr (Or.inl rfl))) ?_ ?_
  · rintro av g ⟨rfl, -⟩
    exact Nat.le_of_ble_eq_true rfl
  · rintro X hX hGX hrm - av g ⟨rfl, hp, hlb, ⟨hn, o, hna, ho⟩, hw, ⟨op, hpa, hop⟩, hpp⟩ hR
    obtain ⟨r, hpl1, -⟩ := hpp p hp
    have hpc : (nI p).toNatClampNeg = p := ni_cl (by omega)
    have fin : ∀ (lim : Int32) (lv : pz_L), (if nt_ce (w p) lb (C p) l = true then (1 : Int32) else 0) = (if lim ≤ l then 1 else 0) → pz_Z X 5 41 lv [.inl lim, .inl l] g 0 0 := by
      intro lim lv he
      refine bX4_canEnter_41 hX _ _ _ _ _ ⟨fun q => ?_, fun q => ?_⟩
      · refine bX4_canEnter_48 hX _ _ _ _ _ ?_
        exact bX4_canEnter_49 hX hR _ _ _ _ _ ⟨Or.inl rfl, Nat.le_refl _, Nat.le_refl _, rfl, by rw [he, if_neg (Int32.not_le.mpr q)]⟩
      · refine bX4_canEnter_44 hX _ _ _ _ _ ?_
        exact bX4_canEnter_49 hX hR _ _ _ _ _ ⟨Or.inr rfl, Nat.le_refl _, Nat.le_refl _, rfl, by rw [he, if_pos (Int32.not_lt.mp q)]⟩
    refine bX4_canEnter_0 hX _ _ _ _ _ ⟨_, _, _, hn, rfl, _, _, _, hna, ni_in hlb (by omega), ?_⟩
    rw [ni_cl (by omega), ho lb hlb]
    refine ⟨_, _, _, hw, ni_in hp (by omega), ?_⟩
    rw [hpc]
    refine ⟨fun q => ?_, fun q => ?_⟩
    · refine bX4_canEnter_19 hX _ _ _ _ _ ⟨fun q2 => ?_, fun q2 => ?_⟩
      · have hl0 : lb ≠ 0 := fun z => q2 (by rw [z]; exact nI_0)
        refine bX4_canEnter_29 hX _ _ _ _ _ ⟨_, _, _, hn, rfl, _, _, _, hpa, ni_in hp (by omega), ?_⟩
        rw [hpc, hop p hp]
        refine ⟨_, _, _, hpl1, rfl, ?_⟩
        refine fin _ _ ?_
        simp only [nt_ce, if_neg q, if_neg hl0, decide_eq_true_eq]
      · have hl0 : lb = 0 := ni_inj (by omega) (by omega) (q2.trans nI_0.symm)
        refine bX4_canEnter_24 hX _ _ _ _ _ ?_
        refine fin _ _ ?_
        simp only [nt_ce, if_neg q, if_pos hl0, decide_eq_true_eq]
    · refine bX4_canEnter_17 hX hR _ _ _ _ _ ⟨Or.inl rfl, Nat.le_refl _, Nat.le_refl _, rfl, ?_⟩
      simp only [nt_ce, if_pos q]
      rfl
