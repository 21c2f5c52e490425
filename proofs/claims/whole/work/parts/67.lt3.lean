/-! LineTimes: isLeap, days -/
theorem i3_td {y c : Int32} (h0 : 1 < c.toInt) : (y / c).toInt = if 0 ≤ y.toInt then y.toInt / c.toInt else -((-y.toInt) / c.toInt) := by
  have hb := i3_bd y
  have ht : y.toInt.tdiv c.toInt = if 0 ≤ y.toInt then y.toInt / c.toInt else -((-y.toInt) / c.toInt) := by
    by_cases h : 0 ≤ y.toInt
    · rw [if_pos h, Int.tdiv_eq_ediv_of_nonneg h]
    · rw [if_neg h]
      have e : y.toInt = -(-y.toInt) := by omega
      rw [e, Int.neg_tdiv, Int.tdiv_eq_ediv_of_nonneg (by omega), ← e]
  rw [Int32.toInt_div, ht]
  have k1 : ∀ a : Int, 0 ≤ a → 0 ≤ a / c.toInt ∧ a / c.toInt ≤ a := fun a ha => ⟨Int.ediv_nonneg ha (by omega), Int.ediv_le_self _ ha⟩
  by_cases h : 0 ≤ y.toInt
  · rw [if_pos h]
    have := k1 _ h
    exact Int.bmod_eq_of_le (by omega) (by omega)
  · rw [if_neg h]
    have := k1 (-y.toInt) (by omega)
    have h2 : (-y.toInt) / c.toInt < -y.toInt := Int.ediv_lt_self_of_pos_of_ne_one (by omega) (by omega)
    exact Int.bmod_eq_of_le (by omega) (by omega)
theorem lp_4 {y : Int32} (h : y - y / 400 * 400 = 0) : y - y / 4 * 4 = 0 := by
  have hb := i3_bd y
  have e400 : (400 : Int32).toInt = 400 := rfl
  have e4 : (4 : Int32).toInt = 4 := rfl
  have d400 := i3_td (y := y) (c := 400) (by decide)
  have d4 := i3_td (y := y) (c := 4) (by decide)
  rw [e400] at d400
  rw [e4] at d4
  have m400 : (y / 400 * 400).toInt = (y / 400).toInt * 400 := by
    rw [i3_mul (by rw [e400]; split at d400 <;> omega) (by rw [e400]; split at d400 <;> omega), e400]
  have m4 : (y / 4 * 4).toInt = (y / 4).toInt * 4 := by
    rw [i3_mul (by rw [e4]; split at d4 <;> omega) (by rw [e4]; split at d4 <;> omega), e4]
  have h1 : (y - y / 400 * 400).toInt = 0 := by rw [h]; rfl
  rw [i3_sub (by rw [m400]; split at d400 <;> omega) (by rw [m400]; split at d400 <;> omega), m400] at h1
  rw [i3_eq, i3_sub (by rw [m4]; split at d4 <;> omega) (by rw [m4]; split at d4 <;> omega), m4, show (0 : Int32).toInt = 0 from rfl]
  split at d400 <;> rename_i hs
  · rw [if_pos hs] at d4; omega
  · rw [if_neg hs] at d4; omega
set_option maxRecDepth 20000 in
theorem bX9_isLeap_0 {X : pz_C} (hX : pz_X X cX9_isLeap 1 RX9) : ∀ lv st g c s, (zo_il 1 0 (zo_ic 1 (4) (zo_irem (zo_if_ne 25 (pz_Z X 1))))) 0 lv st g c s → pz_Z X 1 0 lv st g c s := (zs_iload_n hX dX9_isLeap_0 rfl (zs_iconst hX dX9_isLeap_1 (by decide) (zs_irem hX dX9_isLeap_2 (zs_if_ne hX dX9_isLeap_3 (by decide) (fun _ _ _ _ _ _ h => h)))))
set_option maxRecDepth 20000 in
theorem bX9_isLeap_6 {X : pz_C} (hX : pz_X X cX9_isLeap 1 RX9) : ∀ lv st g c s, (zo_il 1 0 (zo_ic 2 (100) (zo_irem (zo_if_ne 21 (pz_Z X 1))))) 6 lv st g c s → pz_Z X 1 6 lv st g c s := (zs_iload_n hX dX9_isLeap_6 rfl (zs_bipush hX dX9_isLeap_7 (by decide) (zs_irem hX dX9_isLeap_9 (zs_if_ne hX dX9_isLeap_10 (by decide) (fun _ _ _ _ _ _ h => h)))))
set_option maxRecDepth 20000 in
theorem bX9_isLeap_13 {X : pz_C} (hX : pz_X X cX9_isLeap 1 RX9) : ∀ lv st g c s, (zo_il 1 0 (zo_ic 3 (400) (zo_irem (zo_if_ne 25 (pz_Z X 1))))) 13 lv st g c s → pz_Z X 1 13 lv st g c s := (zs_iload_n hX dX9_isLeap_13 rfl (zs_sipush hX dX9_isLeap_14 (by decide) (zs_irem hX dX9_isLeap_17 (zs_if_ne hX dX9_isLeap_18 (by decide) (fun _ _ _ _ _ _ h => h)))))
set_option maxRecDepth 20000 in
theorem bX9_isLeap_21 {X : pz_C} (hX : pz_X X cX9_isLeap 1 RX9) : ∀ lv st g c s, (zo_ic 1 (1) (zo_goto 26 (pz_Z X 1))) 21 lv st g c s → pz_Z X 1 21 lv st g c s := (zs_iconst hX dX9_isLeap_21 (by decide) (zs_goto hX dX9_isLeap_22 (by decide) (fun _ _ _ _ _ _ h => h)))
set_option maxRecDepth 20000 in
theorem bX9_isLeap_25 {X : pz_C} (hX : pz_X X cX9_isLeap 1 RX9) : ∀ lv st g c s, (zo_ic 1 (0) (pz_Z X 1)) 25 lv st g c s → pz_Z X 1 25 lv st g c s := (zs_iconst hX dX9_isLeap_25 (by decide) (fun _ _ _ _ _ h => h))
set_option maxRecDepth 20000 in
theorem bX9_isLeap_26 {X : pz_C} {rm : Room} {E : Option pz_V → pz_H → Prop} (hX : pz_X X cX9_isLeap 1 RX9) (hR : pz_Rt X cX9_isLeap 1 (some .boolean) rm E) : ∀ lv st g c s, (zo_rz rm E) 26 lv st g c s → pz_Z X 1 26 lv st g c s := (zs_rz hR dX9_isLeap_26)
def rm_X9_isLeap : Room := { frames := 0, cells := 0, slots := 0, locals := 0 }
abbrev gt_X9_isLeap : Type := Int32
def pr_X9_isLeap : gt_X9_isLeap → List pz_V → pz_H → Prop := fun y av g => av = [.inl (y)]
def po_X9_isLeap : gt_X9_isLeap → List pz_V → pz_H → Option pz_V → pz_H → Prop := fun y _ g v g' => g' = g ∧ v = some (.inl (if md_lp y = true then 1 else 0))
theorem ct_X9_isLeap {G : pz_Gx} (hOk : pz_OK G) (gh : gt_X9_isLeap) : pz_M G yX9_isLeap cX9_isLeap 1 (some .boolean) rm_X9_isLeap (pr_X9_isLeap gh) (po_X9_isLeap gh) := by
  refine pz_ofZ (by decide) hOk.1 (Or.inr (Or.inr (Or.inl rfl))) ?_ ?_
  · rintro av g rfl
    exact Nat.le_of_ble_eq_true rfl
  · rintro X hX hGX hrm - av g rfl hR
    have hlp : md_lp gh = true ↔ (gh - gh / 4 * 4 = 0 ∧ ¬ gh - gh / 100 * 100 = 0) ∨ gh - gh / 400 * 400 = 0 := by
      unfold md_lp
      simp only [Bool.or_eq_true, Bool.and_eq_true, Bool.not_eq_true', decide_eq_true_eq, decide_eq_false_iff_not]
    have out : ∀ x : Int32, (x = 0 ∨ x = 1) → x = (if md_lp gh = true then 1 else 0) → pz_Z X 1 26 [(0, .inl (gh))] [.inl (x)] g 0 0 := fun x hx he => bX9_isLeap_26 hX hR _ _ _ _ _ ⟨hx, Nat.le_refl _, Nat.le_refl _, rfl, by rw [he]⟩
    refine bX9_isLeap_0 hX _ _ _ _ _ ⟨by decide, fun q => ?_, fun q => ?_⟩
    · refine bX9_isLeap_25 hX _ _ _ _ _ (out 0 (Or.inl rfl) ?_)
      rw [if_neg]
      intro e
      rcases hlp.mp e with e | e
      · exact q e.1
      · exact q (lp_4 e)
    · have q4 : gh - gh / 4 * 4 = 0 := by first | exact q | exact Classical.byContradiction fun e => q e
      refine bX9_isLeap_6 hX _ _ _ _ _ ⟨by decide, fun q2 => ?_, fun q2 => ?_⟩
      · refine bX9_isLeap_21 hX _ _ _ _ _ (out 1 (Or.inr rfl) ?_)
        rw [if_pos (hlp.mpr (Or.inl ⟨q4, q2⟩))]
      · have q1 : gh - gh / 100 * 100 = 0 := by first | exact q2 | exact Classical.byContradiction fun e => q2 e
        refine bX9_isLeap_13 hX _ _ _ _ _ ⟨by decide, fun q3 => ?_, fun q3 => ?_⟩
        · refine bX9_isLeap_25 hX _ _ _ _ _ (out 0 (Or.inl rfl) ?_)
          rw [if_neg]
          intro e
          rcases hlp.mp e with e | e
          · exact e.2 q1
          · exact q3 e
        · have q5 : gh - gh / 400 * 400 = 0 := by first | exact q3 | exact Classical.byContradiction fun e => q3 e
          refine bX9_isLeap_21 hX _ _ _ _ _ (out 1 (Or.inr rfl) ?_)
          rw [if_pos (hlp.mpr (Or.inr q5))]
theorem w3_da : ∀ w ∈ (vx_atS RX9 194 nAIO exI).filter goodWord, w ∈ pz_W := fun w h => pz_in ((by decide +kernel : ∀ w ∈ (vx_atS RX9 194 nAIO exI).filter goodWord, w ∈ lw_tbl) w h) (List.mem_filter.mp h).2
theorem w4_da : ∀ w ∈ bwS 194 nAIO exI, w ∈ bwA := fun w h => List.mem_append_right _ (List.mem_append_right _ (List.mem_append_right _ h))
theorem w5_da : ∀ w ∈ Cond.classLink RX9 190 nAIO :: Cond.initialized nAIO :: vx_atS RX9 194 nAIO exI, vx_ot w = true := by decide +kernel
set_option maxRecDepth 20000 in
theorem bX9_days_0 {X : pz_C} (hX : pz_X X cX9_days 3 RX9) : ∀ lv st g c s, (zo_il 1 1 (zo_ic 1 (1) (zo_ic_lt 13 (pz_Z X 3)))) 0 lv st g c s → pz_Z X 3 0 lv st g c s := (zs_iload_n hX dX9_days_0 rfl (zs_iconst hX dX9_days_1 (by decide) (zs_ic_lt hX dX9_days_2 (by decide) (fun _ _ _ _ _ _ h => h))))
set_option maxRecDepth 20000 in
theorem bX9_days_5 {X : pz_C} {G : pz_Gx} {sa md mi : Nat} (hX : pz_X X cX9_days 3 RX9) (hGX : pz_GX X G) (hOk : pz_O3 G sa md mi) : ∀ lv st g c s, (zo_il 1 1 (zo_gst md (zo_lenT md (zo_ic_le 23 (pz_Z X 3))))) 5 lv st g c s → pz_Z X 3 5 lv st g c s := (zs_iload_n hX dX9_days_5 rfl (zs_gst hX hGX (fun B U J h => (hOk.1.2 B U J h).2.2.2.2.1) mw_81f443ff dX9_days_6 (zs_lenT hX hGX (fun B U J h => (hOk.1.2 B U J h).2.2.2.2.2.1.2) dX9_days_9 (zs_ic_le hX dX9_days_10 (by decide) (fun _ _ _ _ _ _ h => h)))))
set_option maxRecDepth 20000 in
theorem bX9_days_23 {X : pz_C} (hX : pz_X X cX9_days 3 RX9) : ∀ lv st g c s, (zo_il 1 1 (zo_ic 1 (2) (zo_ic_ne 45 (pz_Z X 3)))) 23 lv st g c s → pz_Z X 3 23 lv st g c s := (zs_iload_n hX dX9_days_23 rfl (zs_iconst hX dX9_days_24 (by decide) (zs_ic_ne hX dX9_days_25 (by decide) (fun _ _ _ _ _ _ h => h))))
set_option maxRecDepth 20000 in
theorem bX9_days_28 {X : pz_C} (hX : pz_X X cX9_days 3 RX9) : ∀ lv st g c s, (zo_il 1 2 (pz_Z X 3)) 28 lv st g c s → pz_Z X 3 28 lv st g c s := (zs_iload_n hX dX9_days_28 rfl (fun _ _ _ _ _ h => h))
set_option maxRecDepth 20000 in
theorem bX9_days_29 {X : pz_C} {G : pz_Gx} {sa md mi : Nat} {rm : Room} (hX : pz_X X cX9_days 3 RX9) (hrm : pz_rm X = rm) (hGX : pz_GX X G) (hOk : pz_O3 G sa md mi) (gh : gt_X9_isLeap) (hr_X9_isLeap : rm_X9_isLeap.frames + 1 ≤ rm.frames ∧ 8 + (1 + 11) + rm_X9_isLeap.locals ≤ rm.locals) : ∀ lv st g c s, (zo_cs rm 1 3 rm_X9_isLeap.cells rm_X9_isLeap.slots (pr_X9_isLeap gh) (po_X9_isLeap gh) (zo_kz (zo_if_eq 45 (pz_Z X 3)))) 29 lv st g c s → pz_Z X 3 29 lv st g c s := by
  subst hrm
  exact (zs_csS hX hGX (ct_X9_isLeap hOk.1.1 gh) mw_7ea53d7b mw_1f0f36f2 mw_8bb91264 mw_af3e3868 (by decide +kernel) hr_X9_isLeap dX9_days_29 (zs_kz (zs_if_eq hX dX9_days_32 (by decide) (fun _ _ _ _ _ _ h => h))))
set_option maxRecDepth 20000 in
theorem bX9_days_35 {X : pz_C} {G : pz_Gx} {sa md mi : Nat} {rm : Room} {E : Option pz_V → pz_H → Prop} (hX : pz_X X cX9_days 3 RX9) (hR : pz_Rt X cX9_days 3 (some .int) rm E) (hGX : pz_GX X G) (hOk : pz_O3 G sa md mi) : ∀ lv st g c s, (zo_gst md (zo_il 1 1 (zo_ic 1 (1) (zo_isub (zo_ialdT md (zo_ic 1 (1) (zo_iadd (zo_ri rm E)))))))) 35 lv st g c s → pz_Z X 3 35 lv st g c s := (zs_gst hX hGX (fun B U J h => (hOk.1.2 B U J h).2.2.2.2.1) mw_81f443ff dX9_days_35 (zs_iload_n hX dX9_days_38 rfl (zs_iconst hX dX9_days_39 (by decide) (zs_isub hX dX9_days_40 (zs_ialdT hX hGX (fun B U J h => (hOk.1.2 B U J h).2.2.2.2.2.1.2) dX9_days_41 (zs_iconst hX dX9_days_42 (by decide) (zs_iadd hX dX9_days_43 (zs_ri hR dX9_days_44))))))))
set_option maxRecDepth 20000 in
theorem bX9_days_45 {X : pz_C} {G : pz_Gx} {sa md mi : Nat} {rm : Room} {E : Option pz_V → pz_H → Prop} (hX : pz_X X cX9_days 3 RX9) (hR : pz_Rt X cX9_days 3 (some .int) rm E) (hGX : pz_GX X G) (hOk : pz_O3 G sa md mi) : ∀ lv st g c s, (zo_gst md (zo_il 1 1 (zo_ic 1 (1) (zo_isub (zo_ialdT md (zo_ri rm E)))))) 45 lv st g c s → pz_Z X 3 45 lv st g c s := (zs_gst hX hGX (fun B U J h => (hOk.1.2 B U J h).2.2.2.2.1) mw_81f443ff dX9_days_45 (zs_iload_n hX dX9_days_48 rfl (zs_iconst hX dX9_days_49 (by decide) (zs_isub hX dX9_days_50 (zs_ialdT hX hGX (fun B U J h => (hOk.1.2 B U J h).2.2.2.2.2.1.2) dX9_days_51 (zs_ri hR dX9_days_52))))))
def rm_X9_days : Room := { frames := 7, cells := 1, slots := 6, locals := 95 }
abbrev gt_X9_days : Type := Nat × Int32 × Int32
def pr_X9_days (md : Nat) : gt_X9_days → List pz_V → pz_H → Prop := fun (h, m, y) av g => av = [.inr (.inr (some (h))), .inl (m), .inl (y)] ∧ True
def po_X9_days (md : Nat) : gt_X9_days → List pz_V → pz_H → Option pz_V → pz_H → Prop := fun (h, m, y) _ g v g' => g' = g ∧ ¬ (m < 1 ∨ 12 < m) ∧ v = some (.inl (md_v m y))
def px_X9_days (md : Nat) : gt_X9_days → List pz_V → pz_H → String → pz_H → Prop := fun (h, m, y) _ g E g' => g' = g ∧ E = nAIO ∧ (m < 1 ∨ 12 < m)
theorem md_1 : ∀ k, k < 12 → ∀ b : Bool, (if nI (k + 1) = 2 then (if b = true then (29 : Int32) else 28) else if nI (k + 1) = 4 ∨ nI (k + 1) = 6 ∨ nI (k + 1) = 9 ∨ nI (k + 1) = 11 then 30 else 31) = if k = 1 ∧ b = true then mdF k + 1 else mdF k := by decide +kernel
set_option maxRecDepth 20000 in
theorem ct_X9_days {G : pz_Gx} {sa md mi : Nat} (hOk : pz_O3 G sa md mi) (gh : gt_X9_days) : pz_MX G yX9_days cX9_days 3 (some .int) rm_X9_days (pr_X9_days md gh) (po_X9_days md gh) (px_X9_days md gh) := by
  obtain ⟨h, m, y⟩ := gh
  refine pz_ofZX (by decide) hOk.1.1.1 (Or.inr (Or.inl rfl)) ?_ ?_
  · rintro av g ⟨rfl, -⟩
    exact Nat.le_of_ble_eq_true rfl
  · rintro X hX hGX hrm av g ⟨rfl, hmd⟩ hR hT hTh
    have thr : (m < 1 ∨ 12 < m) → pz_Z X 3 13 [(0, .inr (.inr (some (h)))), (1, .inl (m)), (2, .inl (y))] [] g 0 0 := fun hb => hTh nAIO "there is no such month" exI 190 192 194 13 _ [] g 0 0 (st_of hX hGX hOk (by decide +kernel) (by decide +kernel) mw_35e37d8d mw_c43a5062 w3_da w4_da w5_da (fun _ _ _ h => h.2.2.2.2.2.1) dX9_days_13 dX9_days_16 dX9_days_17 dX9_days_19 dX9_days_22) (by decide) (by decide) (by decide) (by decide) ⟨rfl, rfl, hb⟩
    refine bX9_days_0 hX _ _ _ _ _ ⟨fun q => thr (Or.inl q), fun q => ?_⟩
    refine bX9_days_5 hX hGX hOk _ _ _ _ _ ⟨rfl, fun q2 => ?_, fun q2 => thr (Or.inr (Int32.not_le.mp q2))⟩
    have hm : ∃ k, k < 12 ∧ m = nI (k + 1) := by
      have a1 : ¬ m < 1 := q
      have a2 : m ≤ 12 := q2
      rw [i3_lt, show (1 : Int32).toInt = 1 from rfl] at a1
      rw [i3_le, show (12 : Int32).toInt = 12 from rfl] at a2
      obtain ⟨j, hj, e⟩ := nI_of (x := m) (by rw [i3_lt, show (0 : Int32).toInt = 0 from rfl]; omega)
      rw [e, nI_toInt hj] at a1 a2
      exact ⟨j - 1, by omega, by rw [e]; exact congrArg nI (by omega)⟩
    obtain ⟨k, hk, rfl⟩ := hm
    have hbad : ¬ (nI (k + 1) < 1 ∨ 12 < nI (k + 1)) := fun e => by rcases e with e | e; exact q e; exact absurd q2 (Int32.not_le.mpr e)
    have hp : nI (k + 1) - 1 = nI k := nI_pred k
    have hck : (nI k).toNatClampNeg = k := ni_cl (by omega)
    have hv : ∀ b : Bool, md_lp y = b → md_v (nI (k + 1)) y = if k = 1 ∧ b = true then mdF k + 1 else mdF k := fun b hb => by
      unfold md_v
      rw [hb]
      exact md_1 k hk b
    have plain : ∀ cc ss, cc ≤ 1 → ss ≤ 6 → ¬ (k = 1 ∧ md_lp y = true) → pz_Z X 3 45 [(0, .inr (.inr (some (h)))), (1, .inl (nI (k + 1))), (2, .inl (y))] [] g cc ss := by
      intro cc ss hcc hss hn
      refine bX9_days_45 hX hR hGX hOk _ _ _ _ _ ?_
      refine ⟨rfl, ?_, ?_⟩
      · rw [hp]; exact ni_in (by omega) (by omega)
      · rw [hp, hck]
        exact ⟨hcc, hss, rfl, hbad, by rw [hv _ rfl, if_neg hn]⟩
    refine bX9_days_23 hX _ _ _ _ _ ⟨fun q3 => plain 0 0 (by omega) (by omega) (fun e => q3 (by rw [e.1]; rfl)), fun q3 => ?_⟩
    have hk1 : k = 1 := by
      have q4 : nI (k + 1) = 2 := by first | exact q3 | exact Classical.byContradiction fun e => q3 e
      have := ni_inj (b := 2) (by omega) (by omega) q4
      omega
    refine bX9_days_28 hX _ _ _ _ _ ?_
    refine bX9_days_29 hX hrm hGX hOk y (by decide) _ _ _ _ _ ⟨Nat.le_of_ble_eq_true rfl, Nat.le_of_ble_eq_true rfl, Nat.le_of_ble_eq_true rfl, Nat.le_of_ble_eq_true rfl, rfl, ?_⟩
    rintro v g2 ⟨rfl, rfl⟩ z hz -
    cases hz
    refine ⟨fun q4 => plain 0 0 (by omega) (by omega) (fun e => by rw [if_pos e.2] at q4; exact absurd q4 (by decide)), fun q4 => ?_⟩
    have hl : md_lp y = true := Classical.byContradiction fun e => q4 (if_neg e)
    refine bX9_days_35 hX hR hGX hOk _ _ _ _ _ ?_
    refine ⟨rfl, ?_, ?_⟩
    · rw [hp]; exact ni_in (by omega) (by omega)
    · rw [hp, hck]
      exact ⟨Nat.le_of_ble_eq_true rfl, Nat.le_of_ble_eq_true rfl, rfl, hbad, by rw [hv _ hl, if_pos ⟨hk1, rfl⟩]⟩
