/-! LineTimes$Line: hasRoom, lastLeaving, addStop -/
set_option maxRecDepth 20000 in
theorem bX3_hasRoom_0 {X : pz_C} (hX : pz_X X cX3_hasRoom 1 RX3) : ∀ lv st g c s, (zo_al 1 0 (zo_get 5 4 (zo_ic 2 (12) (zo_ic_ge 13 (pz_Z X 1))))) 0 lv st g c s → pz_Z X 1 0 lv st g c s := (zs_aload_n hX dX3_hasRoom_0 rfl (zs_get hX (C := RX3) (T := TX3) (N := 11) rfl in_X3 (by decide) mw_eb463ec7 dX3_hasRoom_1 (zs_bipush hX dX3_hasRoom_4 (by decide) (zs_ic_ge hX dX3_hasRoom_6 (by decide) (fun _ _ _ _ _ _ h => h)))))
set_option maxRecDepth 20000 in
theorem bX3_hasRoom_9 {X : pz_C} (hX : pz_X X cX3_hasRoom 1 RX3) : ∀ lv st g c s, (zo_ic 1 (1) (zo_goto 14 (pz_Z X 1))) 9 lv st g c s → pz_Z X 1 9 lv st g c s := (zs_iconst hX dX3_hasRoom_9 (by decide) (zs_goto hX dX3_hasRoom_10 (by decide) (fun _ _ _ _ _ _ h => h)))
set_option maxRecDepth 20000 in
theorem bX3_hasRoom_13 {X : pz_C} (hX : pz_X X cX3_hasRoom 1 RX3) : ∀ lv st g c s, (zo_ic 1 (0) (pz_Z X 1)) 13 lv st g c s → pz_Z X 1 13 lv st g c s := (zs_iconst hX dX3_hasRoom_13 (by decide) (fun _ _ _ _ _ h => h))
set_option maxRecDepth 20000 in
theorem bX3_hasRoom_14 {X : pz_C} {rm : Room} {E : Option pz_V → pz_H → Prop} (hX : pz_X X cX3_hasRoom 1 RX3) (hR : pz_Rt X cX3_hasRoom 1 (some .boolean) rm E) : ∀ lv st g c s, (zo_rz rm E) 14 lv st g c s → pz_Z X 1 14 lv st g c s := (zs_rz hR dX3_hasRoom_14)
set_option maxRecDepth 20000 in
theorem bX3_lastLeaving_0 {X : pz_C} (hX : pz_X X cX3_lastLeaving 1 RX3) : ∀ lv st g c s, (zo_al 1 0 (zo_get 5 4 (zo_if_ne 11 (pz_Z X 1)))) 0 lv st g c s → pz_Z X 1 0 lv st g c s := (zs_aload_n hX dX3_lastLeaving_0 rfl (zs_get hX (C := RX3) (T := TX3) (N := 11) rfl in_X3 (by decide) mw_eb463ec7 dX3_lastLeaving_1 (zs_if_ne hX dX3_lastLeaving_4 (by decide) (fun _ _ _ _ _ _ h => h))))
set_option maxRecDepth 20000 in
theorem bX3_lastLeaving_7 {X : pz_C} (hX : pz_X X cX3_lastLeaving 1 RX3) : ∀ lv st g c s, (zo_ic 1 (0) (zo_goto 22 (pz_Z X 1))) 7 lv st g c s → pz_Z X 1 7 lv st g c s := (zs_iconst hX dX3_lastLeaving_7 (by decide) (zs_goto hX dX3_lastLeaving_8 (by decide) (fun _ _ _ _ _ _ h => h)))
set_option maxRecDepth 20000 in
theorem bX3_lastLeaving_11 {X : pz_C} (hX : pz_X X cX3_lastLeaving 1 RX3) : ∀ lv st g c s, (zo_al 1 0 (zo_get 5 3 (zo_al 1 0 (zo_get 5 4 (zo_ic 1 (1) (zo_isub (zo_iald (pz_Z X 1)))))))) 11 lv st g c s → pz_Z X 1 11 lv st g c s := (zs_aload_n hX dX3_lastLeaving_11 rfl (zs_get hX (C := RX3) (T := TX3) (N := 11) rfl in_X3 (by decide) mw_23200ee7 dX3_lastLeaving_12 (zs_aload_n hX dX3_lastLeaving_15 rfl (zs_get hX (C := RX3) (T := TX3) (N := 11) rfl in_X3 (by decide) mw_eb463ec7 dX3_lastLeaving_16 (zs_iconst hX dX3_lastLeaving_19 (by decide) (zs_isub hX dX3_lastLeaving_20 (zs_iald hX dX3_lastLeaving_21 (fun _ _ _ _ _ h => h))))))))
set_option maxRecDepth 20000 in
theorem bX3_lastLeaving_22 {X : pz_C} {rm : Room} {E : Option pz_V → pz_H → Prop} (hX : pz_X X cX3_lastLeaving 1 RX3) (hR : pz_Rt X cX3_lastLeaving 1 (some .int) rm E) : ∀ lv st g c s, (zo_ri rm E) 22 lv st g c s → pz_Z X 1 22 lv st g c s := (zs_ri hR dX3_lastLeaving_22)
def rm_X3_hasRoom : Room := { frames := 0, cells := 0, slots := 0, locals := 0 }
abbrev gt_X3_hasRoom : Type := Nat × Int32
def pr_X3_hasRoom : gt_X3_hasRoom → List pz_V → pz_H → Prop := fun (h, n) av g => av = [.inr (.inr (some h))] ∧ ∃ b fs, g h = some (b, .inr (5, fs)) ∧ fs[4]? = some (.inl n)
def po_X3_hasRoom : gt_X3_hasRoom → List pz_V → pz_H → Option pz_V → pz_H → Prop := fun (_, n) _ g v g' => g' = g ∧ v = some (.inl (if n < 12 then 1 else 0))
set_option maxRecDepth 20000 in
theorem ct_X3_hasRoom {G : pz_Gx} (hOk : pz_OK G) (gh : gt_X3_hasRoom) : pz_M G yX3_hasRoom cX3_hasRoom 1 (some .boolean) rm_X3_hasRoom (pr_X3_hasRoom gh) (po_X3_hasRoom gh) := by
  obtain ⟨h, n⟩ := gh
  refine pz_ofZ (by decide) hOk.1 (Or.inr (Or.inr (Or.inl rfl))) ?_ ?_
  · rintro av g ⟨rfl, -⟩
    exact Nat.le_of_ble_eq_true rfl
  · rintro X hX hGX hrm - av g ⟨rfl, b, fs, hg, hf⟩ hR
    refine bX3_hasRoom_0 hX _ _ _ _ _ ⟨_, _, _, hg, hf, fun q => ?_, fun q => ?_⟩
    · refine bX3_hasRoom_13 hX _ _ _ _ _ ?_
      exact bX3_hasRoom_14 hX hR _ _ _ _ _ ⟨Or.inl rfl, Nat.le_refl _, Nat.le_refl _, rfl, by rw [if_neg (Int32.not_lt.mpr q)]⟩
    · refine bX3_hasRoom_9 hX _ _ _ _ _ ?_
      exact bX3_hasRoom_14 hX hR _ _ _ _ _ ⟨Or.inr rfl, Nat.le_refl _, Nat.le_refl _, rfl, by rw [if_pos (Int32.not_le.mp q)]⟩
def rm_X3_lastLeaving : Room := { frames := 0, cells := 0, slots := 0, locals := 0 }
abbrev gt_X3_lastLeaving : Type := Nat × Nat × (Nat → Int32)
def pr_X3_lastLeaving : gt_X3_lastLeaving → List pz_V → pz_H → Prop := fun (h, n, f) av g => av = [.inr (.inr (some h))] ∧ n ≤ 12 ∧ ∃ b fs b2 sl, g h = some (b, .inr (5, fs)) ∧ fs[4]? = some (.inl (nI n)) ∧ fs[3]? = some (.inr (.inr (some sl))) ∧ g sl = some (b2, .inl (0, 12, .inl f))
def po_X3_lastLeaving : gt_X3_lastLeaving → List pz_V → pz_H → Option pz_V → pz_H → Prop := fun (_, n, f) _ g v g' => g' = g ∧ v = some (.inl (if n = 0 then 0 else f (n - 1)))
set_option maxRecDepth 20000 in
theorem ct_X3_lastLeaving {G : pz_Gx} (hOk : pz_OK G) (gh : gt_X3_lastLeaving) : pz_M G yX3_lastLeaving cX3_lastLeaving 1 (some .int) rm_X3_lastLeaving (pr_X3_lastLeaving gh) (po_X3_lastLeaving gh) := by
  obtain ⟨h, n, f⟩ := gh
  refine pz_ofZ (by decide) hOk.1 (Or.inr (Or.inl rfl)) ?_ ?_
  · rintro av g ⟨rfl, -⟩
    exact Nat.le_of_ble_eq_true rfl
  · rintro X hX hGX hrm - av g ⟨rfl, hn, b, fs, b2, sl, hg, hf, hf3, hs⟩ hR
    refine bX3_lastLeaving_0 hX _ _ _ _ _ ⟨_, _, _, hg, hf, fun q => ?_, fun q => ?_⟩
    · have h0 : 0 < n := by
        rcases Nat.eq_zero_or_pos n with h | h
        · subst h; exact absurd nI_0 q
        · exact h
      refine bX3_lastLeaving_11 hX _ _ _ _ _ ⟨_, _, _, hg, hf3, _, _, _, hg, hf, _, _, _, hs, ?_, ?_⟩
      · rw [ni_pred h0]; exact ni_in (by omega) (by omega)
      · rw [ni_pred h0, ni_cl (by omega)]
        exact bX3_lastLeaving_22 hX hR _ _ _ _ _ ⟨Nat.le_refl _, Nat.le_refl _, rfl, by rw [if_neg (by omega)]⟩
    · have h0 : n = 0 := ni_inj (by omega) (by omega) (q.trans nI_0.symm)
      refine bX3_lastLeaving_7 hX _ _ _ _ _ ?_
      exact bX3_lastLeaving_22 hX hR _ _ _ _ _ ⟨Nat.le_refl _, Nat.le_refl _, rfl, by rw [if_pos h0]⟩
set_option maxRecDepth 20000 in
theorem bX3_addStop_0 {X : pz_C} (hX : pz_X X cX3_addStop 4 RX3) : ∀ lv st g c s, (zo_al 1 0 (pz_Z X 4)) 0 lv st g c s → pz_Z X 4 0 lv st g c s := (zs_aload_n hX dX3_addStop_0 rfl (fun _ _ _ _ _ h => h))
set_option maxRecDepth 20000 in
theorem bX3_addStop_1 {X : pz_C} {G : pz_Gx} {rm : Room} (hX : pz_X X cX3_addStop 4 RX3) (hrm : pz_rm X = rm) (hGX : pz_GX X G) (hOk : pz_OK G) (gh : gt_X3_hasRoom) (hr_X3_hasRoom : rm_X3_hasRoom.frames + 1 ≤ rm.frames ∧ 8 + (1 + 11) + rm_X3_hasRoom.locals ≤ rm.locals) : ∀ lv st g c s, (zo_cV rm 5 0 3 rm_X3_hasRoom.cells rm_X3_hasRoom.slots (pr_X3_hasRoom gh) (po_X3_hasRoom gh) (zo_kz (zo_if_ne 8 (pz_Z X 4)))) 1 lv st g c s → pz_Z X 4 1 lv st g c s := by
  subst hrm
  exact (zs_csV hX hGX (C := RX3) (T := TX3) (N := 11) rfl (ct_X3_hasRoom hOk gh) mw_d0dabec8 mw_443464b6 mw_87633111 mw_ad64dfa1 mw_2a36a0f8 (by decide +kernel) hr_X3_hasRoom dX3_addStop_1 (zs_kz (zs_if_ne hX dX3_addStop_4 (by decide) (fun _ _ _ _ _ _ h => h))))
set_option maxRecDepth 20000 in
theorem bX3_addStop_7 {X : pz_C} {rm : Room} {E : Option pz_V → pz_H → Prop} (hX : pz_X X cX3_addStop 4 RX3) (hR : pz_Rt X cX3_addStop 4 none rm E) : ∀ lv st g c s, (zo_rv rm E) 7 lv st g c s → pz_Z X 4 7 lv st g c s := (zs_rv hR dX3_addStop_7)
set_option maxRecDepth 20000 in
theorem bX3_addStop_8 {X : pz_C} {rm : Room} {E : Option pz_V → pz_H → Prop} (hX : pz_X X cX3_addStop 4 RX3) (hR : pz_Rt X cX3_addStop 4 none rm E) : ∀ lv st g c s, (zo_al 1 0 (zo_get 5 1 (zo_al 1 0 (zo_get 5 4 (zo_il 1 1 (zo_iast (zo_al 1 0 (zo_get 5 2 (zo_al 1 0 (zo_get 5 4 (zo_il 1 2 (zo_iast (zo_al 1 0 (zo_get 5 3 (zo_al 1 0 (zo_get 5 4 (zo_il 1 3 (zo_iast (zo_al 1 0 (zo_dup (zo_get 5 4 (zo_ic 1 (1) (zo_iadd (zo_puti 5 4 (zo_rv rm E))))))))))))))))))))))))) 8 lv st g c s → pz_Z X 4 8 lv st g c s := (zs_aload_n hX dX3_addStop_8 rfl (zs_get hX (C := RX3) (T := TX3) (N := 11) rfl in_X3 (by decide) mw_7ffb4013 dX3_addStop_9 (zs_aload_n hX dX3_addStop_12 rfl (zs_get hX (C := RX3) (T := TX3) (N := 11) rfl in_X3 (by decide) mw_eb463ec7 dX3_addStop_13 (zs_iload_n hX dX3_addStop_16 rfl (zs_iast hX dX3_addStop_17 (zs_aload_n hX dX3_addStop_18 rfl (zs_get hX (C := RX3) (T := TX3) (N := 11) rfl in_X3 (by decide) mw_22306b94 dX3_addStop_19 (zs_aload_n hX dX3_addStop_22 rfl (zs_get hX (C := RX3) (T := TX3) (N := 11) rfl in_X3 (by decide) mw_eb463ec7 dX3_addStop_23 (zs_iload_n hX dX3_addStop_26 rfl (zs_iast hX dX3_addStop_27 (zs_aload_n hX dX3_addStop_28 rfl (zs_get hX (C := RX3) (T := TX3) (N := 11) rfl in_X3 (by decide) mw_23200ee7 dX3_addStop_29 (zs_aload_n hX dX3_addStop_32 rfl (zs_get hX (C := RX3) (T := TX3) (N := 11) rfl in_X3 (by decide) mw_eb463ec7 dX3_addStop_33 (zs_iload_n hX dX3_addStop_36 rfl (zs_iast hX dX3_addStop_37 (zs_aload_n hX dX3_addStop_38 rfl (zs_dup hX dX3_addStop_39 (zs_get hX (C := RX3) (T := TX3) (N := 11) rfl in_X3 (by decide) mw_eb463ec7 dX3_addStop_40 (zs_iconst hX dX3_addStop_43 (by decide) (zs_iadd hX dX3_addStop_44 (zs_puti hX (C := RX3) (T := TX3) (N := 11) rfl in_X3 (by decide) mw_eb463ec7 tyX3 tyX3_ok nmX3 (by decide +kernel) rfl dX3_addStop_45 (zs_rv hR dX3_addStop_48)))))))))))))))))))))))))
def rm_X3_addStop : Room := { frames := 1, cells := 0, slots := 0, locals := 20 }
abbrev gt_X3_addStop : Type := Nat × (Int32 × Int32 × Int32) × (List Nat × List pz_V) × Nat × (Nat × Nat × Nat) × (List Nat × List Nat × List Nat) × (Nat → Int32) × (Nat → Int32) × (Nat → Int32)
def pr_X3_addStop : gt_X3_addStop → List pz_V → pz_H → Prop := fun (h, (x, y, z), (b, fs), n, (sp, sa, sl), (b1, b2, b3), f1, f2, f3) av g => av = [.inr (.inr (some h)), .inl x, .inl y, .inl z] ∧ n ≤ 12 ∧ g h = some (b, .inr (5, fs)) ∧ fs[1]? = some (.inr (.inr (some sp))) ∧ fs[2]? = some (.inr (.inr (some sa))) ∧ fs[3]? = some (.inr (.inr (some sl))) ∧ fs[4]? = some (.inl (nI n)) ∧ g sp = some (b1, .inl (0, 12, .inl f1)) ∧ g sa = some (b2, .inl (0, 12, .inl f2)) ∧ g sl = some (b3, .inl (0, 12, .inl f3)) ∧ b1 ≠ b2 ∧ b1 ≠ b3 ∧ b2 ≠ b3 ∧ b ≠ b1 ∧ b ≠ b2 ∧ b ≠ b3
def po_X3_addStop : gt_X3_addStop → List pz_V → pz_H → Option pz_V → pz_H → Prop := fun (h, (x, y, z), (b, fs), n, (sp, sa, sl), (b1, b2, b3), f1, f2, f3) _ g v g' => v = none ∧ ((n = 12 ∧ g' = g) ∨ (n < 12 ∧ hg (fun q => q = b ∨ q = b1 ∨ q = b2 ∨ q = b3) g g' ∧ g' h = some (b, .inr (5, fs.set 4 (.inl (nI (n + 1))))) ∧ g' sp = some (b1, .inl (0, 12, .inl (upd f1 n x))) ∧ g' sa = some (b2, .inl (0, 12, .inl (upd f2 n y))) ∧ g' sl = some (b3, .inl (0, 12, .inl (upd f3 n z)))))
set_option maxRecDepth 20000 in
theorem ct_X3_addStop {G : pz_Gx} (hOk : pz_OK G) (gh : gt_X3_addStop) : pz_M G yX3_addStop cX3_addStop 4 none rm_X3_addStop (pr_X3_addStop gh) (po_X3_addStop gh) := by
  obtain ⟨h, ⟨x, y, z⟩, ⟨b, fs⟩, n, ⟨sp, sa, sl⟩, ⟨b1, b2, b3⟩, f1, f2, f3⟩ := gh
  refine pz_ofZ (by decide) hOk.1 (Or.inl rfl) ?_ ?_
  · rintro av g ⟨rfl, -⟩
    exact Nat.le_of_ble_eq_true rfl
  · rintro X hX hGX hrm - av g ⟨rfl, hn, hg, e1, e2, e3, e4, g1, g2, g3, n12, n13, n23, nb1, nb2, nb3⟩ hR
    refine bX3_addStop_0 hX _ _ _ _ _ ?_
    refine bX3_addStop_1 hX hrm hGX hOk (h, nI n) (by decide) _ _ _ _ _ ⟨Nat.le_of_ble_eq_true rfl, ⟨h, [], b, fs, rfl, hg⟩, Nat.le_of_ble_eq_true rfl, Nat.le_of_ble_eq_true rfl, Nat.le_of_ble_eq_true rfl, ⟨rfl, b, fs, hg, e4⟩, ?_⟩
    rintro v g' ⟨rfl, rfl⟩ r hr h01
    cases hr
    by_cases h12 : n < 12
    · rw [if_pos (show nI n < 12 from (ni_lt (b := 12) (by omega) (by omega)).mpr h12)]
      refine ⟨fun _ => ?_, fun q => absurd q (by decide)⟩
      have hi : vp_in (nI n) 12 := ni_in h12 (by omega)
      have hc : (nI n).toNatClampNeg = n := ni_cl (by omega)
      refine bX3_addStop_8 hX hR _ _ _ _ _ ⟨_, _, _, hg, e1, _, _, _, hg, e4, _, _, _, g1, hi, ?_⟩
      refine ⟨_, _, _, up_ne hg g1 nb1, e2, _, _, _, up_ne hg g1 nb1, e4, _, _, _, up_ne g2 g1 n12.symm, hi, ?_⟩
      refine ⟨_, _, _, up_ne (up_ne hg g1 nb1) (up_ne g2 g1 n12.symm) nb2, e3, _, _, _, up_ne (up_ne hg g1 nb1) (up_ne g2 g1 n12.symm) nb2, e4, _, _, _, up_ne (up_ne g3 g1 n13.symm) (up_ne g2 g1 n12.symm) n23.symm, hi, ?_⟩
      have hh3 := up_ne (v := some (b3, .inl (0, 12, .inl (upd f3 (nI n).toNatClampNeg z)))) (up_ne (v := some (b2, .inl (0, 12, .inl (upd f2 (nI n).toNatClampNeg y)))) (up_ne (v := some (b1, .inl (0, 12, .inl (upd f1 (nI n).toNatClampNeg x)))) hg g1 nb1) (up_ne g2 g1 n12.symm) nb2) (up_ne (up_ne g3 g1 n13.symm) (up_ne g2 g1 n12.symm) n23.symm) nb3
      refine ⟨rfl, _, _, _, hh3, e4, _, _, hh3, (List.getElem?_eq_some_iff.mp e4).1, Nat.le_refl _, Nat.le_refl _, rfl, Or.inr ⟨h12, ?_, ?_, ?_, ?_, ?_⟩⟩
      · exact hg_up (hg_up (hg_up (hg_up hg_rf g1 (Or.inr (Or.inl rfl))) (up_ne g2 g1 n12.symm) (Or.inr (Or.inr (Or.inl rfl)))) (up_ne (up_ne g3 g1 n13.symm) (up_ne g2 g1 n12.symm) n23.symm) (Or.inr (Or.inr (Or.inr rfl)))) hh3 (Or.inl rfl)
      · rw [up_at, nI_1]
      · rw [hc]
        rw [hc] at hh3
        exact up_ne (up_ne (up_ne up_at (up_ne g2 g1 n12.symm) n12) (up_ne (up_ne g3 g1 n13.symm) (up_ne g2 g1 n12.symm) n23.symm) n13) hh3 nb1.symm
      · rw [hc]
        rw [hc] at hh3
        exact up_ne (up_ne up_at (up_ne (up_ne g3 g1 n13.symm) (up_ne g2 g1 n12.symm) n23.symm) n23) hh3 nb2.symm
      · rw [hc]
        rw [hc] at hh3
        exact up_ne up_at hh3 nb3.symm
    · rw [if_neg (show ¬ nI n < 12 from fun q => h12 ((ni_lt (b := 12) (by omega) (by omega)).mp q))]
      refine ⟨fun q => absurd rfl q, fun _ => ?_⟩
      exact bX3_addStop_7 hX hR _ _ _ _ _ ⟨Nat.le_refl _, Nat.le_refl _, rfl, Or.inl ⟨by omega, rfl⟩⟩
/-! day words: the latest in front -/
def dw_ch (g : pz_H) (u : Nat) : Option Nat → List (Int32 × Int32) → Prop
  | r, [] => r = none
  | r, (d, x) :: l => ∃ a r', r = some a ∧ g a = some ([40, u, d.toNatClampNeg], .inr (2, [.inl d, .inl x, .inr (.inr r')])) ∧ dw_ch g u r' l
def dw_get : List (Int32 × Int32) → Int32 → Option Int32
  | [], _ => none
  | (d, x) :: l, k => if d = k then some x else dw_get l k
set_option maxRecDepth 20000 in
theorem bX3_wordFor_0 {X : pz_C} (hX : pz_X X cX3_wordFor 3 RX3) : ∀ lv st g c s, (zo_al 1 0 (zo_get 5 5 (zo_as 1 2 (pz_Z X 3)))) 0 lv st g c s → pz_Z X 3 0 lv st g c s := (zs_aload_n hX dX3_wordFor_0 rfl (zs_get hX (C := RX3) (T := TX3) (N := 11) rfl in_X3 (by decide) mw_933948ad dX3_wordFor_1 (zs_astore_n hX dX3_wordFor_4 rfl (by decide) (fun _ _ _ _ _ h => h))))
set_option maxRecDepth 20000 in
theorem bX3_wordFor_5 {X : pz_C} (hX : pz_X X cX3_wordFor 3 RX3) : ∀ lv st g c s, (zo_al 1 2 (zo_ifnull 27 (pz_Z X 3))) 5 lv st g c s → pz_Z X 3 5 lv st g c s := (zs_aload_n hX dX3_wordFor_5 rfl (zs_ifnull hX dX3_wordFor_6 (by decide) (fun _ _ _ _ _ _ h => h)))
set_option maxRecDepth 20000 in
theorem bX3_wordFor_9 {X : pz_C} (hX : pz_X X cX3_wordFor 3 RX3) : ∀ lv st g c s, (zo_al 1 2 (zo_get 2 0 (zo_il 1 1 (zo_ic_ne 19 (pz_Z X 3))))) 9 lv st g c s → pz_Z X 3 9 lv st g c s := (zs_aload_n hX dX3_wordFor_9 rfl (zs_get hX (C := RX0) (T := TX0) (N := 3) rfl in_X0 (by decide) mw_9c599262 dX3_wordFor_10 (zs_iload_n hX dX3_wordFor_13 rfl (zs_ic_ne hX dX3_wordFor_14 (by decide) (fun _ _ _ _ _ _ h => h)))))
set_option maxRecDepth 20000 in
theorem bX3_wordFor_17 {X : pz_C} {rm : Room} {E : Option pz_V → pz_H → Prop} (hX : pz_X X cX3_wordFor 3 RX3) (hR : pz_Rt X cX3_wordFor 3 (some (.object "LineTimes$DayWord")) rm E) : ∀ lv st g c s, (zo_al 1 2 (zo_rr rm E)) 17 lv st g c s → pz_Z X 3 17 lv st g c s := (zs_aload_n hX dX3_wordFor_17 rfl (zs_rr (by first | exact Or.inl ⟨_, rfl⟩ | exact Or.inr ⟨_, rfl⟩) hR dX3_wordFor_18))
set_option maxRecDepth 20000 in
theorem bX3_wordFor_19 {X : pz_C} (hX : pz_X X cX3_wordFor 3 RX3) : ∀ lv st g c s, (zo_al 1 2 (zo_get 2 2 (zo_as 1 2 (zo_goto 5 (pz_Z X 3))))) 19 lv st g c s → pz_Z X 3 19 lv st g c s := (zs_aload_n hX dX3_wordFor_19 rfl (zs_get hX (C := RX0) (T := TX0) (N := 3) rfl in_X0 (by decide) mw_59c91b4c dX3_wordFor_20 (zs_astore_n hX dX3_wordFor_23 rfl (by decide) (zs_goto hX dX3_wordFor_24 (by decide) (fun _ _ _ _ _ _ h => h)))))
set_option maxRecDepth 20000 in
theorem bX3_wordFor_27 {X : pz_C} {rm : Room} {E : Option pz_V → pz_H → Prop} (hX : pz_X X cX3_wordFor 3 RX3) (hR : pz_Rt X cX3_wordFor 3 (some (.object "LineTimes$DayWord")) rm E) : ∀ lv st g c s, (zo_null (zo_rr rm E)) 27 lv st g c s → pz_Z X 3 27 lv st g c s := (zs_null hX dX3_wordFor_27 (zs_rr (by first | exact Or.inl ⟨_, rfl⟩ | exact Or.inr ⟨_, rfl⟩) hR dX3_wordFor_28))
def rm_X3_wordFor : Room := { frames := 0, cells := 0, slots := 0, locals := 0 }
abbrev gt_X3_wordFor : Type := Nat × Int32 × Nat × List (Int32 × Int32)
def pr_X3_wordFor : gt_X3_wordFor → List pz_V → pz_H → Prop := fun (h, d, u, l) av g => av = [.inr (.inr (some h)), .inl d] ∧ ∃ b fs r, g h = some (b, .inr (5, fs)) ∧ fs[5]? = some (.inr (.inr r)) ∧ dw_ch g u r l
def po_X3_wordFor : gt_X3_wordFor → List pz_V → pz_H → Option pz_V → pz_H → Prop := fun (_, d, u, l) _ g v g' => g' = g ∧ ((v = some (.inr (.inr none)) ∧ dw_get l d = none) ∨ ∃ a x r', v = some (.inr (.inr (some a))) ∧ g a = some ([40, u, d.toNatClampNeg], .inr (2, [.inl d, .inl x, .inr (.inr r')])) ∧ dw_get l d = some x)
set_option maxRecDepth 20000 in
theorem ct_X3_wordFor {G : pz_Gx} (hOk : pz_OK G) (gh : gt_X3_wordFor) : pz_M G yX3_wordFor cX3_wordFor 3 (some (.object "LineTimes$DayWord")) rm_X3_wordFor (pr_X3_wordFor gh) (po_X3_wordFor gh) := by
  obtain ⟨h, d, u, l⟩ := gh
  refine pz_ofZ (by decide) hOk.1 (Or.inr (Or.inr (Or.inr (Or.inr (Or.inl ⟨_, rfl⟩))))) ?_ ?_
  · rintro av g ⟨rfl, -⟩
    exact Nat.le_of_ble_eq_true rfl
  · rintro X hX hGX hrm - av g ⟨rfl, b, fs, r, hg, hf, hz⟩ hR
    have loop : ∀ (l2 : List (Int32 × Int32)) (r2 : Option Nat), dw_ch g u r2 l2 → dw_get l2 d = dw_get l d → pz_Z X 3 5 [(2, .inr (.inr r2)), (0, .inr (.inr (some h))), (1, .inl d)] [] g 0 0 := by
      intro l2
      induction l2 with
      | nil =>
        intro r2 h2 he
        cases h2
        refine bX3_wordFor_5 hX _ _ _ _ _ ⟨fun _ => ?_, fun a q => by cases q⟩
        exact bX3_wordFor_27 hX hR _ _ _ _ _ ⟨Nat.le_refl _, Nat.le_refl _, rfl, Or.inl ⟨rfl, he.symm⟩⟩
      | cons z l3 ih =>
        intro r2 h2 he
        obtain ⟨d2, x⟩ := z
        obtain ⟨a, r3, rfl, ha, h3⟩ := h2
        refine bX3_wordFor_5 hX _ _ _ _ _ ⟨fun q => (by cases q), fun _ _ => ?_⟩
        refine bX3_wordFor_9 hX _ _ _ _ _ ⟨_, _, _, ha, rfl, fun q => ?_, fun q => ?_⟩
        · refine bX3_wordFor_19 hX _ _ _ _ _ ⟨_, _, _, ha, rfl, ?_⟩
          refine ih r3 h3 ?_
          rw [← he]
          show _ = if d2 = d then some x else dw_get l3 d
          rw [if_neg q]
        · subst q
          refine bX3_wordFor_17 hX hR _ _ _ _ _ ⟨Nat.le_refl _, Nat.le_refl _, rfl, Or.inr ⟨a, x, r3, rfl, ha, ?_⟩⟩
          rw [← he]
          show (if d2 = d2 then some x else dw_get l3 d2) = some x
          rw [if_pos rfl]
    refine bX3_wordFor_0 hX _ _ _ _ _ ⟨_, _, _, hg, hf, ?_⟩
    exact loop l r hz rfl
set_option maxRecDepth 20000 in
theorem bX3_runsOn_0 {X : pz_C} (hX : pz_X X cX3_runsOn 3 RX3) : ∀ lv st g c s, (zo_il 1 1 (zo_if_ge 6 (pz_Z X 3))) 0 lv st g c s → pz_Z X 3 0 lv st g c s := (zs_iload_n hX dX3_runsOn_0 rfl (zs_if_ge hX dX3_runsOn_1 (by decide) (fun _ _ _ _ _ _ h => h)))
set_option maxRecDepth 20000 in
theorem bX3_runsOn_4 {X : pz_C} {rm : Room} {E : Option pz_V → pz_H → Prop} (hX : pz_X X cX3_runsOn 3 RX3) (hR : pz_Rt X cX3_runsOn 3 (some .boolean) rm E) : ∀ lv st g c s, (zo_ic 1 (0) (zo_rz rm E)) 4 lv st g c s → pz_Z X 3 4 lv st g c s := (zs_iconst hX dX3_runsOn_4 (by decide) (zs_rz hR dX3_runsOn_5))
set_option maxRecDepth 20000 in
theorem bX3_runsOn_6 {X : pz_C} (hX : pz_X X cX3_runsOn 3 RX3) : ∀ lv st g c s, (zo_al 1 0 (zo_il 1 1 (pz_Z X 3))) 6 lv st g c s → pz_Z X 3 6 lv st g c s := (zs_aload_n hX dX3_runsOn_6 rfl (zs_iload_n hX dX3_runsOn_7 rfl (fun _ _ _ _ _ h => h)))
set_option maxRecDepth 20000 in
theorem bX3_runsOn_8 {X : pz_C} {G : pz_Gx} {rm : Room} (hX : pz_X X cX3_runsOn 3 RX3) (hrm : pz_rm X = rm) (hGX : pz_GX X G) (hOk : pz_OK G) (gh : gt_X3_wordFor) (hr_X3_wordFor : rm_X3_wordFor.frames + 1 ≤ rm.frames ∧ 8 + (3 + 11) + rm_X3_wordFor.locals ≤ rm.locals) : ∀ lv st g c s, (zo_cV rm 5 1 3 rm_X3_wordFor.cells rm_X3_wordFor.slots (pr_X3_wordFor gh) (po_X3_wordFor gh) (zo_kr (zo_as 1 2 (zo_al 1 2 (zo_ifnull 21 (pz_Z X 3)))))) 8 lv st g c s → pz_Z X 3 8 lv st g c s := by
  subst hrm
  exact (zs_csV hX hGX (C := RX3) (T := TX3) (N := 11) rfl (ct_X3_wordFor hOk gh) mw_27324109 mw_573890c9 mw_361e345e mw_ad64dfa1 mw_ea7b4c2c (by decide +kernel) hr_X3_wordFor dX3_runsOn_8 (zs_kr (by first | exact Or.inl ⟨_, rfl⟩ | exact Or.inr ⟨_, rfl⟩) (zs_astore_n hX dX3_runsOn_11 rfl (by decide) (zs_aload_n hX dX3_runsOn_12 rfl (zs_ifnull hX dX3_runsOn_13 (by decide) (fun _ _ _ _ _ _ h => h))))))
set_option maxRecDepth 20000 in
theorem bX3_runsOn_16 {X : pz_C} {rm : Room} {E : Option pz_V → pz_H → Prop} (hX : pz_X X cX3_runsOn 3 RX3) (hR : pz_Rt X cX3_runsOn 3 (some .boolean) rm E) : ∀ lv st g c s, (zo_al 1 2 (zo_get 2 1 (zo_rz rm E))) 16 lv st g c s → pz_Z X 3 16 lv st g c s := (zs_aload_n hX dX3_runsOn_16 rfl (zs_get hX (C := RX0) (T := TX0) (N := 3) rfl in_X0 (by decide) mw_ec0b77f6 dX3_runsOn_17 (zs_rz hR dX3_runsOn_20)))
set_option maxRecDepth 20000 in
theorem bX3_runsOn_21 {X : pz_C} (hX : pz_X X cX3_runsOn 3 RX3) : ∀ lv st g c s, (zo_al 1 0 (zo_get 5 0 (zo_il 1 1 (zo_ic 2 (7) (zo_irem (zo_ishr (zo_ic 1 (1) (zo_iand (zo_ic 1 (1) (zo_ic_ne 40 (pz_Z X 3))))))))))) 21 lv st g c s → pz_Z X 3 21 lv st g c s := (zs_aload_n hX dX3_runsOn_21 rfl (zs_get hX (C := RX3) (T := TX3) (N := 11) rfl in_X3 (by decide) mw_1e5c016b dX3_runsOn_22 (zs_iload_n hX dX3_runsOn_25 rfl (zs_bipush hX dX3_runsOn_26 (by decide) (zs_irem hX dX3_runsOn_28 (zs_ishr hX dX3_runsOn_29 (zs_iconst hX dX3_runsOn_30 (by decide) (zs_iand hX dX3_runsOn_31 (zs_iconst hX dX3_runsOn_32 (by decide) (zs_ic_ne hX dX3_runsOn_33 (by decide) (fun _ _ _ _ _ _ h => h)))))))))))
set_option maxRecDepth 20000 in
theorem bX3_runsOn_36 {X : pz_C} (hX : pz_X X cX3_runsOn 3 RX3) : ∀ lv st g c s, (zo_ic 1 (1) (zo_goto 41 (pz_Z X 3))) 36 lv st g c s → pz_Z X 3 36 lv st g c s := (zs_iconst hX dX3_runsOn_36 (by decide) (zs_goto hX dX3_runsOn_37 (by decide) (fun _ _ _ _ _ _ h => h)))
set_option maxRecDepth 20000 in
theorem bX3_runsOn_40 {X : pz_C} (hX : pz_X X cX3_runsOn 3 RX3) : ∀ lv st g c s, (zo_ic 1 (0) (pz_Z X 3)) 40 lv st g c s → pz_Z X 3 40 lv st g c s := (zs_iconst hX dX3_runsOn_40 (by decide) (fun _ _ _ _ _ h => h))
set_option maxRecDepth 20000 in
theorem bX3_runsOn_41 {X : pz_C} {rm : Room} {E : Option pz_V → pz_H → Prop} (hX : pz_X X cX3_runsOn 3 RX3) (hR : pz_Rt X cX3_runsOn 3 (some .boolean) rm E) : ∀ lv st g c s, (zo_rz rm E) 41 lv st g c s → pz_Z X 3 41 lv st g c s := (zs_rz hR dX3_runsOn_41)
def dw_run (wd : Int32) (l : List (Int32 × Int32)) (d : Int32) : Int32 := if d < 0 then 0 else match dw_get l d with
  | some x => x
  | none => if wd >>> ((d - d / 7 * 7) &&& 31) &&& 1 = 1 then 1 else 0
def rm_X3_runsOn : Room := { frames := 1, cells := 0, slots := 0, locals := 22 }
abbrev gt_X3_runsOn : Type := Nat × Int32 × Nat × Int32 × List (Int32 × Int32)
def pr_X3_runsOn : gt_X3_runsOn → List pz_V → pz_H → Prop := fun (h, d, u, wd, l) av g => av = [.inr (.inr (some h)), .inl d] ∧ (∀ q ∈ l, q.2 = 0 ∨ q.2 = 1) ∧ ∃ b fs r, g h = some (b, .inr (5, fs)) ∧ fs[0]? = some (.inl wd) ∧ fs[5]? = some (.inr (.inr r)) ∧ dw_ch g u r l
def po_X3_runsOn : gt_X3_runsOn → List pz_V → pz_H → Option pz_V → pz_H → Prop := fun (_, d, _, wd, l) _ g v g' => g' = g ∧ v = some (.inl (dw_run wd l d))
theorem dw_get_01 {l : List (Int32 × Int32)} (h : ∀ q ∈ l, q.2 = 0 ∨ q.2 = 1) {d x : Int32} (hx : dw_get l d = some x) : x = 0 ∨ x = 1 := by
  induction l with
  | nil => cases hx
  | cons z l ih =>
    obtain ⟨d2, x2⟩ := z
    unfold dw_get at hx
    split at hx
    · have := h _ List.mem_cons_self
      cases hx
      exact this
    · exact ih (fun q hq => h q (List.mem_cons_of_mem _ hq)) hx
set_option maxRecDepth 20000 in
theorem ct_X3_runsOn {G : pz_Gx} (hOk : pz_OK G) (gh : gt_X3_runsOn) : pz_M G yX3_runsOn cX3_runsOn 3 (some .boolean) rm_X3_runsOn (pr_X3_runsOn gh) (po_X3_runsOn gh) := by
  obtain ⟨h, d, u, wd, l⟩ := gh
  refine pz_ofZ (by decide) hOk.1 (Or.inr (Or.inr (Or.inl rfl))) ?_ ?_
  · rintro av g ⟨rfl, -⟩
    exact Nat.le_of_ble_eq_true rfl
  · rintro X hX hGX hrm - av g ⟨rfl, h01, b, fs, r, hg, hf0, hf5, hz⟩ hR
    refine bX3_runsOn_0 hX _ _ _ _ _ ⟨fun q => ?_, fun q => ?_⟩
    · have hd : ¬ d < 0 := Int32.not_lt.mpr q
      refine bX3_runsOn_6 hX _ _ _ _ _ ?_
      refine bX3_runsOn_8 hX hrm hGX hOk (h, d, u, l) (by decide) _ _ _ _ _ ⟨Nat.le_of_ble_eq_true rfl, ⟨h, [.inl d], b, fs, rfl, hg⟩, Nat.le_of_ble_eq_true rfl, Nat.le_of_ble_eq_true rfl, Nat.le_of_ble_eq_true rfl, ⟨rfl, b, fs, r, hg, hf5, hz⟩, ?_⟩
      rintro v g' ⟨rfl, hv⟩ r2 hr
      rcases hv with ⟨rfl, hn⟩ | ⟨a, x, r', rfl, ha, hx⟩
      · cases hr
        refine ⟨fun _ => ?_, fun a q => (by cases q)⟩
        refine bX3_runsOn_21 hX _ _ _ _ _ ⟨_, _, _, hg, hf0, (by decide), fun q => ?_, fun q => ?_⟩
        · refine bX3_runsOn_40 hX _ _ _ _ _ ?_
          refine bX3_runsOn_41 hX hR _ _ _ _ _ ⟨Or.inl rfl, Nat.le_refl _, Nat.le_refl _, rfl, ?_⟩
          simp only [dw_run, if_neg hd, hn, if_neg q]
        · refine bX3_runsOn_36 hX _ _ _ _ _ ?_
          refine bX3_runsOn_41 hX hR _ _ _ _ _ ⟨Or.inr rfl, Nat.le_refl _, Nat.le_refl _, rfl, ?_⟩
          simp only [dw_run, if_neg hd, hn, if_pos q]
      · cases hr
        refine ⟨fun q => (by cases q), fun a q => ?_⟩
        refine bX3_runsOn_16 hX hR _ _ _ _ _ ⟨_, _, _, ha, rfl, dw_get_01 h01 hx, Nat.le_refl _, Nat.le_refl _, rfl, ?_⟩
        simp only [dw_run, if_neg hd, hx]
    · refine bX3_runsOn_4 hX hR _ _ _ _ _ ⟨Or.inl rfl, Nat.le_refl _, Nat.le_refl _, rfl, ?_⟩
      simp only [dw_run, if_pos (Int32.not_le.mp q)]
/-! late words -/
def lt_ch (g : pz_H) (u : Nat) : Option Nat → List (Int32 × Int32 × Int32) → Prop
  | r, [] => r = none
  | r, (st, by', d) :: l => ∃ a r', r = some a ∧ g a = some ([41, u], .inr (3, [.inl st, .inl by', .inl d, .inr (.inr r')])) ∧ lt_ch g u r' l
def lt_acc (d : Int32) (j : Nat) : List (Int32 × Int32 × Int32) → Int32 → Int32
  | [], x => x
  | (st, by', d2) :: l, x => lt_acc d j l (if d2 = d ∧ st = nI j then x + by' else x)
theorem lt_mono {g g' : pz_H} {u : Nat} {S : List Nat → Prop} (hh : hg S g g') (hS : ¬ S [41, u]) : ∀ (l : List (Int32 × Int32 × Int32)) (r : Option Nat), lt_ch g u r l → lt_ch g' u r l
  | [], _, h => h
  | (_, _, _) :: l, _, ⟨a, r', h1, h2, h3⟩ => ⟨a, r', h1, hh _ _ _ h2 hS, lt_mono hh hS l r' h3⟩
theorem dw_mono {g g' : pz_H} {u : Nat} {S : List Nat → Prop} (hh : hg S g g') (hS : ∀ d, ¬ S [40, u, d]) : ∀ (l : List (Int32 × Int32)) (r : Option Nat), dw_ch g u r l → dw_ch g' u r l
  | [], _, h => h
  | (_, _) :: l, _, ⟨a, r', h1, h2, h3⟩ => ⟨a, r', h1, hh _ _ _ h2 (hS _), dw_mono hh hS l r' h3⟩
theorem pl_mono {g g' : pz_H} {p : Nat} {S : List Nat → Prop} (hh : hg S g g') (hS : ∀ d, ¬ S [21, p, d]) : ∀ (l : List (Int32 × Int32)) (r : Option Nat), pl_ch g p r l → pl_ch g' p r l
  | [], _, h => h
  | (_, _) :: l, _, ⟨a, r', h1, h2, h3⟩ => ⟨a, r', h1, hh _ _ _ h2 (hS _), pl_mono hh hS l r' h3⟩
set_option maxRecDepth 20000 in
theorem bX3_gatherLate_0 {X : pz_C} (hX : pz_X X cX3_gatherLate 3 RX3) : ∀ lv st g c s, (zo_al 1 0 (zo_get 5 10 (zo_ic 1 (0) (pz_Z X 3)))) 0 lv st g c s → pz_Z X 3 0 lv st g c s := (zs_aload_n hX dX3_gatherLate_0 rfl (zs_get hX (C := RX3) (T := TX3) (N := 11) rfl in_X3 (by decide) mw_b5197fa4 dX3_gatherLate_1 (zs_iconst hX dX3_gatherLate_4 (by decide) (fun _ _ _ _ _ h => h))))
set_option maxRecDepth 20000 in
theorem bX3_gatherLate_5 {X : pz_C} {G : pz_Gx} {rm : Room} (hX : pz_X X cX3_gatherLate 3 RX3) (hrm : pz_rm X = rm) (hGX : pz_GX X G) (hOk : pz_OK G) (gh : gt_J7_fill_53178) (hr_J7_fill_53178 : rm_J7_fill_53178.frames + 1 ≤ rm.frames ∧ 8 + (4 + 11) + rm_J7_fill_53178.locals ≤ rm.locals) : ∀ lv st g c s, (zo_cs rm 2 3 rm_J7_fill_53178.cells rm_J7_fill_53178.slots (pr_J7_fill_53178 gh) (po_J7_fill_53178 gh) (zo_kv (zo_al 1 0 (zo_get 5 6 (zo_as 1 2 (pz_Z X 3)))))) 5 lv st g c s → pz_Z X 3 5 lv st g c s := by
  subst hrm
  exact (zs_csS hX hGX (ct_J7_fill_53178 hOk gh) mw_e1b088c6 mw_f64f8428 mw_76fc92b1 mw_9f3bf93d (by decide +kernel) hr_J7_fill_53178 dX3_gatherLate_5 (zs_kv (zs_aload_n hX dX3_gatherLate_8 rfl (zs_get hX (C := RX3) (T := TX3) (N := 11) rfl in_X3 (by decide) mw_d775e35a dX3_gatherLate_9 (zs_astore_n hX dX3_gatherLate_12 rfl (by decide) (fun _ _ _ _ _ h => h))))))
set_option maxRecDepth 20000 in
theorem bX3_gatherLate_13 {X : pz_C} (hX : pz_X X cX3_gatherLate 3 RX3) : ∀ lv st g c s, (zo_al 1 2 (zo_ifnull 49 (pz_Z X 3))) 13 lv st g c s → pz_Z X 3 13 lv st g c s := (zs_aload_n hX dX3_gatherLate_13 rfl (zs_ifnull hX dX3_gatherLate_14 (by decide) (fun _ _ _ _ _ _ h => h)))
set_option maxRecDepth 20000 in
theorem bX3_gatherLate_17 {X : pz_C} (hX : pz_X X cX3_gatherLate 3 RX3) : ∀ lv st g c s, (zo_al 1 2 (zo_get 3 2 (zo_il 1 1 (zo_ic_ne 41 (pz_Z X 3))))) 17 lv st g c s → pz_Z X 3 17 lv st g c s := (zs_aload_n hX dX3_gatherLate_17 rfl (zs_get hX (C := RX1) (T := TX1) (N := 4) rfl in_X1 (by decide) mw_ec8f050c dX3_gatherLate_18 (zs_iload_n hX dX3_gatherLate_21 rfl (zs_ic_ne hX dX3_gatherLate_22 (by decide) (fun _ _ _ _ _ _ h => h)))))
set_option maxRecDepth 20000 in
theorem bX3_gatherLate_25 {X : pz_C} (hX : pz_X X cX3_gatherLate 3 RX3) : ∀ lv st g c s, (zo_al 1 0 (zo_get 5 10 (zo_al 1 2 (zo_get 3 0 (zo_dup2 (zo_iald (zo_al 1 2 (zo_get 3 1 (zo_iadd (zo_iast (pz_Z X 3))))))))))) 25 lv st g c s → pz_Z X 3 25 lv st g c s := (zs_aload_n hX dX3_gatherLate_25 rfl (zs_get hX (C := RX3) (T := TX3) (N := 11) rfl in_X3 (by decide) mw_b5197fa4 dX3_gatherLate_26 (zs_aload_n hX dX3_gatherLate_29 rfl (zs_get hX (C := RX1) (T := TX1) (N := 4) rfl in_X1 (by decide) mw_480f6050 dX3_gatherLate_30 (zs_dup2 hX dX3_gatherLate_33 (zs_iald hX dX3_gatherLate_34 (zs_aload_n hX dX3_gatherLate_35 rfl (zs_get hX (C := RX1) (T := TX1) (N := 4) rfl in_X1 (by decide) mw_2fcdfd9a dX3_gatherLate_36 (zs_iadd hX dX3_gatherLate_39 (zs_iast hX dX3_gatherLate_40 (fun _ _ _ _ _ h => h)))))))))))
set_option maxRecDepth 20000 in
theorem bX3_gatherLate_41 {X : pz_C} (hX : pz_X X cX3_gatherLate 3 RX3) : ∀ lv st g c s, (zo_al 1 2 (zo_get 3 3 (zo_as 1 2 (zo_goto 13 (pz_Z X 3))))) 41 lv st g c s → pz_Z X 3 41 lv st g c s := (zs_aload_n hX dX3_gatherLate_41 rfl (zs_get hX (C := RX1) (T := TX1) (N := 4) rfl in_X1 (by decide) mw_2707ff53 dX3_gatherLate_42 (zs_astore_n hX dX3_gatherLate_45 rfl (by decide) (zs_goto hX dX3_gatherLate_46 (by decide) (fun _ _ _ _ _ _ h => h)))))
set_option maxRecDepth 20000 in
theorem bX3_gatherLate_49 {X : pz_C} {rm : Room} {E : Option pz_V → pz_H → Prop} (hX : pz_X X cX3_gatherLate 3 RX3) (hR : pz_Rt X cX3_gatherLate 3 none rm E) : ∀ lv st g c s, (zo_rv rm E) 49 lv st g c s → pz_Z X 3 49 lv st g c s := (zs_rv hR dX3_gatherLate_49)
def rm_X3_gatherLate : Room := { frames := 1, cells := 0, slots := 0, locals := 23 }
abbrev gt_X3_gatherLate : Type := Nat × Int32 × Nat × List (Int32 × Int32 × Int32) × Nat × (Nat → Int32)
def pr_X3_gatherLate : gt_X3_gatherLate → List pz_V → pz_H → Prop := fun (h, d, u, l, lb, f) av g => av = [.inr (.inr (some h)), .inl d] ∧ (∀ q ∈ l, ∃ k, k < 12 ∧ q.1 = nI k) ∧ ∃ fs r, g h = some ([30, u], .inr (5, fs)) ∧ fs[6]? = some (.inr (.inr r)) ∧ fs[10]? = some (.inr (.inr (some lb))) ∧ lt_ch g u r l ∧ g lb = some ([39, u], .inl (0, 12, .inl f))
def po_X3_gatherLate : gt_X3_gatherLate → List pz_V → pz_H → Option pz_V → pz_H → Prop := fun (_, d, u, l, lb, _) _ g v g' => v = none ∧ ∃ f' : Nat → Int32, g' = va_up g lb (some ([39, u], .inl (0, 12, .inl f'))) ∧ ∀ j, j < 12 → f' j = lt_acc d j l 0
set_option maxRecDepth 20000 in
theorem ct_X3_gatherLate {G : pz_Gx} (hOk : pz_OK G) (gh : gt_X3_gatherLate) : pz_M G yX3_gatherLate cX3_gatherLate 3 none rm_X3_gatherLate (pr_X3_gatherLate gh) (po_X3_gatherLate gh) := by
  obtain ⟨h, d, u, l, lb, f⟩ := gh
  refine pz_ofZ (by decide) hOk.1 (Or.inl rfl) ?_ ?_
  · rintro av g ⟨rfl, -⟩
    exact Nat.le_of_ble_eq_true rfl
  · rintro X hX hGX hrm - av g ⟨rfl, hst, fs, r, hg, h6, h10, hz, hlb⟩ hR
    have loop : ∀ (l2 : List (Int32 × Int32 × Int32)) (r2 : Option Nat) (f2 : Nat → Int32), (∀ q ∈ l2, ∃ k, k < 12 ∧ q.1 = nI k) → lt_ch g u r2 l2 → (∀ j, j < 12 → lt_acc d j l2 (f2 j) = lt_acc d j l 0) → pz_Z X 3 13 [(2, .inr (.inr r2)), (0, .inr (.inr (some h))), (1, .inl d)] [] (va_up g lb (some ([39, u], .inl (0, 12, .inl f2)))) 0 0 := by
      intro l2
      induction l2 with
      | nil =>
        intro r2 f2 _ h2 he
        cases h2
        refine bX3_gatherLate_13 hX _ _ _ _ _ ⟨fun _ => ?_, fun a q => (by cases q)⟩
        exact bX3_gatherLate_49 hX hR _ _ _ _ _ ⟨Nat.le_refl _, Nat.le_refl _, rfl, f2, rfl, he⟩
      | cons z l3 ih =>
        intro r2 f2 hk h2 he
        obtain ⟨st, by', d2⟩ := z
        obtain ⟨a, r3, rfl, ha, h3⟩ := h2
        have hk3 : ∀ q ∈ l3, ∃ k, k < 12 ∧ q.1 = nI k := fun q hq => hk q (List.mem_cons_of_mem _ hq)
        obtain ⟨k, hk12, rfl⟩ : ∃ k, k < 12 ∧ st = nI k := hk _ List.mem_cons_self
        have ha' := up_ne (v := some ([39, u], .inl (0, 12, .inl f2))) ha hlb (by simp)
        have hg' := up_ne (v := some ([39, u], .inl (0, 12, .inl f2))) hg hlb (by simp)
        refine bX3_gatherLate_13 hX _ _ _ _ _ ⟨fun q => (by cases q), fun _ _ => ?_⟩
        refine bX3_gatherLate_17 hX _ _ _ _ _ ⟨_, _, _, ha', rfl, fun q => ?_, fun q => ?_⟩
        · refine bX3_gatherLate_41 hX _ _ _ _ _ ⟨_, _, _, ha', rfl, ?_⟩
          refine ih r3 f2 hk3 h3 (fun j hj => ?_)
          rw [← he j hj]
          show _ = lt_acc d j l3 (if d2 = d ∧ nI k = nI j then f2 j + by' else f2 j)
          rw [if_neg (fun z => q z.1)]
        · subst q
          refine bX3_gatherLate_25 hX _ _ _ _ _ ⟨_, _, _, hg', h10, _, _, _, ha', rfl, rfl, rfl, _, _, _, up_at, ni_in hk12 (by omega), _, _, _, ha', rfl, _, _, _, up_at, ni_in hk12 (by omega), ?_⟩
          rw [up_up, ni_cl (by omega)]
          have ha2 := up_ne (v := some ([39, u], .inl (0, 12, .inl (upd f2 k (f2 k + by'))))) ha hlb (by simp)
          refine bX3_gatherLate_41 hX _ _ _ _ _ ⟨_, _, _, ha2, rfl, ?_⟩
          refine ih r3 (upd f2 k (f2 k + by')) hk3 h3 (fun j hj => ?_)
          rw [← he j hj]
          show _ = lt_acc d2 j l3 (if d2 = d2 ∧ nI k = nI j then f2 j + by' else f2 j)
          by_cases hjk : j = k
          · subst hjk
            rw [pk_us, if_pos ⟨rfl, rfl⟩]
          · rw [pk_un hjk, if_neg (fun z => hjk (ni_inj (by omega) (by omega) z.2).symm)]
    refine bX3_gatherLate_0 hX _ _ _ _ _ ⟨_, _, _, hg, h10, ?_⟩
    refine bX3_gatherLate_5 hX hrm hGX hOk (lb, 0, [39, u], 12, f) (by decide) _ _ _ _ _ ⟨Nat.le_of_ble_eq_true rfl, Nat.le_of_ble_eq_true rfl, Nat.le_of_ble_eq_true rfl, Nat.le_of_ble_eq_true rfl, ⟨rfl, hlb, by omega⟩, ?_⟩
    rintro v g' ⟨rfl, f', rfl, hf'⟩ _
    have hg' := up_ne (v := some ([39, u], .inl (0, 12, .inl f'))) hg hlb (by simp)
    refine ⟨_, _, _, hg', h6, ?_⟩
    refine loop l r f' hst hz (fun j hj => ?_)
    rw [hf' j hj]
