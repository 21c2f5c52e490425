theorem mw_4653eace : Cond.initialized "java/lang/IllegalArgumentException" ∈ pz_W := pz_in (List.mem_append_right _ (List.mem_append_left _ (List.mem_of_getElem? (i := 14) (by decide +kernel)))) (by decide +kernel)
theorem mw_644434da : Cond.classLink RX9 247 "java/lang/UnsupportedOperationException" ∈ pz_W := pz_in (List.mem_append_right _ (List.mem_append_right _ (List.mem_append_right _ (List.mem_append_left _ (List.mem_of_getElem? (i := 27) (by decide +kernel)))))) (by decide +kernel)
theorem mw_71c93440 : Cond.classLink RX9 237 "java/lang/IndexOutOfBoundsException" ∈ pz_W := pz_in (List.mem_append_right _ (List.mem_append_right _ (List.mem_append_right _ (List.mem_append_left _ (List.mem_of_getElem? (i := 55) (by decide +kernel)))))) (by decide +kernel)
theorem mw_d0ace959 : Cond.initialized "java/lang/IndexOutOfBoundsException" ∈ pz_W := pz_in (List.mem_append_right _ (List.mem_append_left _ (List.mem_of_getElem? (i := 21) (by decide +kernel)))) (by decide +kernel)
theorem mw_e1c73dd1 : Cond.classLink RX9 242 "java/lang/IllegalArgumentException" ∈ pz_W := pz_in (List.mem_append_right _ (List.mem_append_right _ (List.mem_append_left _ (List.mem_of_getElem? (i := 195) (by decide +kernel))))) (by decide +kernel)
theorem mw_ecf4a01a : Cond.initialized "java/lang/UnsupportedOperationException" ∈ pz_W := pz_in (List.mem_append_right _ (List.mem_append_left _ (List.mem_of_getElem? (i := 15) (by decide +kernel)))) (by decide +kernel)
/-! requireIndex, requireRange, requireRoom, requireJourney -/
theorem w3_ra : ∀ w ∈ (vx_atS RX9 246 nIAE exS).filter goodWord, w ∈ pz_W := fun w h => pz_in ((by decide +kernel : ∀ w ∈ (vx_atS RX9 246 nIAE exS).filter goodWord, w ∈ lw_tbl) w h) (List.mem_filter.mp h).2
theorem w3_ro : ∀ w ∈ (vx_atS RX9 251 nUOE exS).filter goodWord, w ∈ pz_W := fun w h => pz_in ((by decide +kernel : ∀ w ∈ (vx_atS RX9 251 nUOE exS).filter goodWord, w ∈ lw_tbl) w h) (List.mem_filter.mp h).2
theorem w4_ix : ∀ w ∈ bwS 241 nIOB exS, w ∈ bwA := fun w h => List.mem_append_left _ h
theorem w4_ra : ∀ w ∈ bwS 246 nIAE exS, w ∈ bwA := fun w h => List.mem_append_right _ (List.mem_append_left _ h)
theorem w4_ro : ∀ w ∈ bwS 251 nUOE exS, w ∈ bwA := fun w h => List.mem_append_right _ (List.mem_append_right _ (List.mem_append_left _ h))
theorem w5_ix : ∀ w ∈ Cond.classLink RX9 237 nIOB :: Cond.initialized nIOB :: vx_atS RX9 241 nIOB exS, vx_ot w = true := by decide +kernel
theorem w5_ra : ∀ w ∈ Cond.classLink RX9 242 nIAE :: Cond.initialized nIAE :: vx_atS RX9 246 nIAE exS, vx_ot w = true := by decide +kernel
theorem w5_ro : ∀ w ∈ Cond.classLink RX9 247 nUOE :: Cond.initialized nUOE :: vx_atS RX9 251 nUOE exS, vx_ot w = true := by decide +kernel
set_option maxRecDepth 20000 in
theorem bX9_requireIndex_0 {X : pz_C} (hX : pz_X X cX9_requireIndex 2 RX9) : ∀ lv st g c s, (zo_il 1 0 (zo_if_lt 9 (pz_Z X 2))) 0 lv st g c s → pz_Z X 2 0 lv st g c s := (zs_iload_n hX dX9_requireIndex_0 rfl (zs_if_lt hX dX9_requireIndex_1 (by decide) (fun _ _ _ _ _ _ h => h)))
set_option maxRecDepth 20000 in
theorem bX9_requireIndex_4 {X : pz_C} (hX : pz_X X cX9_requireIndex 2 RX9) : ∀ lv st g c s, (zo_il 1 0 (zo_il 1 1 (zo_ic_lt 19 (pz_Z X 2)))) 4 lv st g c s → pz_Z X 2 4 lv st g c s := (zs_iload_n hX dX9_requireIndex_4 rfl (zs_iload_n hX dX9_requireIndex_5 rfl (zs_ic_lt hX dX9_requireIndex_6 (by decide) (fun _ _ _ _ _ _ h => h))))
set_option maxRecDepth 20000 in
theorem bX9_requireIndex_19 {X : pz_C} {rm : Room} {E : Option pz_V → pz_H → Prop} (hX : pz_X X cX9_requireIndex 2 RX9) (hR : pz_Rt X cX9_requireIndex 2 none rm E) : ∀ lv st g c s, (zo_rv rm E) 19 lv st g c s → pz_Z X 2 19 lv st g c s := (zs_rv hR dX9_requireIndex_19)
set_option maxRecDepth 20000 in
theorem bX9_requireRange_0 {X : pz_C} (hX : pz_X X cX9_requireRange 6 RX9) : ∀ lv st g c s, (zo_ll 1 0 (zo_ll 1 2 (zo_lcmp (zo_if_lt 13 (pz_Z X 6))))) 0 lv st g c s → pz_Z X 6 0 lv st g c s := (zs_lload_n hX dX9_requireRange_0 rfl (zs_lload_n hX dX9_requireRange_1 rfl (zs_lcmp hX dX9_requireRange_2 (zs_if_lt hX dX9_requireRange_3 (by decide) (fun _ _ _ _ _ _ h => h)))))
set_option maxRecDepth 20000 in
theorem bX9_requireRange_6 {X : pz_C} (hX : pz_X X cX9_requireRange 6 RX9) : ∀ lv st g c s, (zo_ll 1 0 (zo_ll 2 4 (zo_lcmp (zo_if_le 23 (pz_Z X 6))))) 6 lv st g c s → pz_Z X 6 6 lv st g c s := (zs_lload_n hX dX9_requireRange_6 rfl (zs_lload hX dX9_requireRange_7 (zs_lcmp hX dX9_requireRange_9 (zs_if_le hX dX9_requireRange_10 (by decide) (fun _ _ _ _ _ _ h => h)))))
set_option maxRecDepth 20000 in
theorem bX9_requireRange_23 {X : pz_C} {rm : Room} {E : Option pz_V → pz_H → Prop} (hX : pz_X X cX9_requireRange 6 RX9) (hR : pz_Rt X cX9_requireRange 6 none rm E) : ∀ lv st g c s, (zo_rv rm E) 23 lv st g c s → pz_Z X 6 23 lv st g c s := (zs_rv hR dX9_requireRange_23)
set_option maxRecDepth 20000 in
theorem bX9_requireRoom_0 {X : pz_C} (hX : pz_X X cX9_requireRoom 1 RX9) : ∀ lv st g c s, (zo_il 1 0 (zo_if_ne 14 (pz_Z X 1))) 0 lv st g c s → pz_Z X 1 0 lv st g c s := (zs_iload_n hX dX9_requireRoom_0 rfl (zs_if_ne hX dX9_requireRoom_1 (by decide) (fun _ _ _ _ _ _ h => h)))
set_option maxRecDepth 20000 in
theorem bX9_requireRoom_14 {X : pz_C} {rm : Room} {E : Option pz_V → pz_H → Prop} (hX : pz_X X cX9_requireRoom 1 RX9) (hR : pz_Rt X cX9_requireRoom 1 none rm E) : ∀ lv st g c s, (zo_rv rm E) 14 lv st g c s → pz_Z X 1 14 lv st g c s := (zs_rv hR dX9_requireRoom_14)
def rm_X9_requireIndex : Room := { frames := 6, cells := 1, slots := 6, locals := 82 }
abbrev gt_X9_requireIndex : Type := Int32 × Int32
def bdI (i n : Int32) : Prop := i < 0 ∨ n ≤ i
def pr_X9_requireIndex : gt_X9_requireIndex → List pz_V → pz_H → Prop := fun (i, n) av g => av = [.inl (i), .inl (n)]
def po_X9_requireIndex : gt_X9_requireIndex → List pz_V → pz_H → Option pz_V → pz_H → Prop := fun (i, n) _ g v g' => v = none ∧ g' = g ∧ ¬ bdI i n
def px_X9_requireIndex : gt_X9_requireIndex → List pz_V → pz_H → String → pz_H → Prop := fun (i, n) _ g E g' => E = nIOB ∧ g' = g ∧ bdI i n
theorem ct_X9_requireIndex {G : pz_Gx} {sa md mi : Nat} (hOk : pz_O3 G sa md mi) (gh : gt_X9_requireIndex) : pz_MX G yX9_requireIndex cX9_requireIndex 2 none rm_X9_requireIndex (pr_X9_requireIndex gh) (po_X9_requireIndex gh) (px_X9_requireIndex gh) := by
  obtain ⟨i, n⟩ := gh
  refine pz_ofZX (by decide) hOk.1.1.1 (Or.inl rfl) ?_ ?_
  · rintro av g rfl
    exact Nat.le_of_ble_eq_true rfl
  · rintro X hX hGX hrm av g rfl hR hT hTh
    have thr : bdI i n → pz_Z X 2 9 [(0, .inl (i)), (1, .inl (n))] [] g 0 0 := fun hb => hTh nIOB "there is no such line, stop or place" exS 237 239 241 9 _ [] g 0 0 (st_of hX hGX hOk (by decide +kernel) (by decide +kernel) mw_71c93440 mw_d0ace959 w3_ix w4_ix w5_ix (fun _ _ _ h => h.2.2.1) dX9_requireIndex_9 dX9_requireIndex_12 dX9_requireIndex_13 dX9_requireIndex_15 dX9_requireIndex_18) (by decide) (by decide) (by decide) (by decide) ⟨rfl, rfl, hb⟩
    refine bX9_requireIndex_0 hX _ _ _ _ _ ⟨fun q => thr (Or.inl q), fun q => ?_⟩
    refine bX9_requireIndex_4 hX _ _ _ _ _ ⟨fun q2 => ?_, fun q2 => thr (Or.inr (Int32.not_lt.mp q2))⟩
    exact bX9_requireIndex_19 hX hR _ _ _ _ _ ⟨Nat.le_of_ble_eq_true rfl, Nat.le_of_ble_eq_true rfl, rfl, rfl, fun h => by rcases h with h | h; exact q h; exact absurd q2 (Int32.not_lt.mpr h)⟩
def rm_X9_requireRange : Room := { frames := 6, cells := 1, slots := 6, locals := 82 }
abbrev gt_X9_requireRange : Type := Int64 × Int64 × Int64
def bdR (x a b : Int64) : Prop := x < a ∨ b < x
def pr_X9_requireRange : gt_X9_requireRange → List pz_V → pz_H → Prop := fun (x, a, b) av g => av = [.inr (.inl (x)), .inr (.inl (a)), .inr (.inl (b))]
def po_X9_requireRange : gt_X9_requireRange → List pz_V → pz_H → Option pz_V → pz_H → Prop := fun (x, a, b) _ g v g' => v = none ∧ g' = g ∧ ¬ bdR x a b
def px_X9_requireRange : gt_X9_requireRange → List pz_V → pz_H → String → pz_H → Prop := fun (x, a, b) _ g E g' => E = nIAE ∧ g' = g ∧ bdR x a b
theorem ct_X9_requireRange {G : pz_Gx} {sa md mi : Nat} (hOk : pz_O3 G sa md mi) (gh : gt_X9_requireRange) : pz_MX G yX9_requireRange cX9_requireRange 6 none rm_X9_requireRange (pr_X9_requireRange gh) (po_X9_requireRange gh) (px_X9_requireRange gh) := by
  obtain ⟨x, a, b⟩ := gh
  refine pz_ofZX (by decide) hOk.1.1.1 (Or.inl rfl) ?_ ?_
  · rintro av g rfl
    exact Nat.le_of_ble_eq_true rfl
  · rintro X hX hGX hrm av g rfl hR hT hTh
    have thr : bdR x a b → pz_Z X 6 13 [(0, .inr (.inl (x))), (2, .inr (.inl (a))), (4, .inr (.inl (b)))] [] g 0 0 := fun hb => hTh nIAE "a number is not as said" exS 242 244 246 13 _ [] g 0 0 (st_of hX hGX hOk (by decide +kernel) (by decide +kernel) mw_e1c73dd1 mw_4653eace w3_ra w4_ra w5_ra (fun _ _ _ h => h.2.2.2.1) dX9_requireRange_13 dX9_requireRange_16 dX9_requireRange_17 dX9_requireRange_19 dX9_requireRange_22) (by decide) (by decide) (by decide) (by decide) ⟨rfl, rfl, hb⟩
    refine bX9_requireRange_0 hX _ _ _ _ _ ⟨fun q => thr (Or.inl ((lc_lt _ _).mp q)), fun q => ?_⟩
    refine bX9_requireRange_6 hX _ _ _ _ _ ⟨fun q2 => ?_, fun q2 => thr (Or.inr ?_)⟩
    · exact bX9_requireRange_23 hX hR _ _ _ _ _ ⟨Nat.le_of_ble_eq_true rfl, Nat.le_of_ble_eq_true rfl, rfl, rfl, fun h => by
        rcases h with h | h
        · exact q ((lc_lt _ _).mpr h)
        · have := (lc_le _ _).mp q2
          rw [i6_le] at this
          rw [i6_lt] at h
          omega⟩
    · have : ¬ x ≤ b := fun e => q2 ((lc_le _ _).mpr e)
      rw [i6_le] at this
      rw [i6_lt]
      omega
def rm_X9_requireRoom : Room := { frames := 6, cells := 1, slots := 6, locals := 82 }
abbrev gt_X9_requireRoom : Type := Int32
def pr_X9_requireRoom : gt_X9_requireRoom → List pz_V → pz_H → Prop := fun x av g => av = [.inl (x)]
def po_X9_requireRoom : gt_X9_requireRoom → List pz_V → pz_H → Option pz_V → pz_H → Prop := fun x _ g v g' => v = none ∧ g' = g ∧ x ≠ 0
def px_X9_requireRoom : gt_X9_requireRoom → List pz_V → pz_H → String → pz_H → Prop := fun x _ g E g' => E = nUOE ∧ g' = g ∧ x = 0
theorem ct_X9_requireRoom {G : pz_Gx} {sa md mi : Nat} (hOk : pz_O3 G sa md mi) (gh : gt_X9_requireRoom) : pz_MX G yX9_requireRoom cX9_requireRoom 1 none rm_X9_requireRoom (pr_X9_requireRoom gh) (po_X9_requireRoom gh) (px_X9_requireRoom gh) := by
  refine pz_ofZX (by decide) hOk.1.1.1 (Or.inl rfl) ?_ ?_
  · rintro av g rfl
    exact Nat.le_of_ble_eq_true rfl
  · rintro X hX hGX hrm av g rfl hR hT hTh
    refine bX9_requireRoom_0 hX _ _ _ _ _ ⟨fun q => ?_, fun q => ?_⟩
    · exact bX9_requireRoom_14 hX hR _ _ _ _ _ ⟨Nat.le_of_ble_eq_true rfl, Nat.le_of_ble_eq_true rfl, rfl, rfl, q⟩
    · refine hTh nUOE "there is no room" exS 247 249 251 4 _ [] g 0 0 (st_of hX hGX hOk (by decide +kernel) (by decide +kernel) mw_644434da mw_ecf4a01a w3_ro w4_ro w5_ro (fun _ _ _ h => h.2.2.2.2.1) dX9_requireRoom_4 dX9_requireRoom_7 dX9_requireRoom_8 dX9_requireRoom_10 dX9_requireRoom_13) (by decide) (by decide) (by decide) (by decide) ⟨rfl, rfl, ?_⟩
      first | exact q | exact Classical.byContradiction fun e => q e
