set_option maxRecDepth 20000 in
theorem bX5_minutesAt_0 {X : pz_C} (hX : pz_X X cX5_minutesAt 4 RX5) : ∀ lv st g c s, (zo_ic 1 (0) (zo_is 1 2 (zo_al 1 0 (zo_get 7 0 (zo_as 1 3 (pz_Z X 4)))))) 0 lv st g c s → pz_Z X 4 0 lv st g c s := (zs_iconst hX dX5_minutesAt_0 (by decide) (zs_istore_n hX dX5_minutesAt_1 rfl (by decide) (zs_aload_n hX dX5_minutesAt_2 rfl (zs_get hX (C := RX5) (T := TX5) (N := 3) rfl in_X5 (by decide) mw_902ce658 dX5_minutesAt_3 (zs_astore_n hX dX5_minutesAt_6 rfl (by decide) (fun _ _ _ _ _ h => h))))))
set_option maxRecDepth 20000 in
theorem bX5_minutesAt_7 {X : pz_C} (hX : pz_X X cX5_minutesAt 4 RX5) : ∀ lv st g c s, (zo_al 1 3 (zo_ifnull 34 (pz_Z X 4))) 7 lv st g c s → pz_Z X 4 7 lv st g c s := (zs_aload_n hX dX5_minutesAt_7 rfl (zs_ifnull hX dX5_minutesAt_8 (by decide) (fun _ _ _ _ _ _ h => h)))
set_option maxRecDepth 20000 in
theorem bX5_minutesAt_11 {X : pz_C} (hX : pz_X X cX5_minutesAt 4 RX5) : ∀ lv st g c s, (zo_al 1 3 (zo_get 10 1 (zo_is 1 2 (zo_al 1 3 (zo_get 10 0 (zo_il 1 1 (zo_ic_gt 26 (pz_Z X 4)))))))) 11 lv st g c s → pz_Z X 4 11 lv st g c s := (zs_aload_n hX dX5_minutesAt_11 rfl (zs_get hX (C := RX8) (T := TX8) (N := 3) rfl in_X8 (by decide) mw_efc3a75f dX5_minutesAt_12 (zs_istore_n hX dX5_minutesAt_15 rfl (by decide) (zs_aload_n hX dX5_minutesAt_16 rfl (zs_get hX (C := RX8) (T := TX8) (N := 3) rfl in_X8 (by decide) mw_8d18b59e dX5_minutesAt_17 (zs_iload_n hX dX5_minutesAt_20 rfl (zs_ic_gt hX dX5_minutesAt_21 (by decide) (fun _ _ _ _ _ _ h => h))))))))
set_option maxRecDepth 20000 in
theorem bX5_minutesAt_24 {X : pz_C} {rm : Room} {E : Option pz_V → pz_H → Prop} (hX : pz_X X cX5_minutesAt 4 RX5) (hR : pz_Rt X cX5_minutesAt 4 (some .int) rm E) : ∀ lv st g c s, (zo_il 1 2 (zo_ri rm E)) 24 lv st g c s → pz_Z X 4 24 lv st g c s := (zs_iload_n hX dX5_minutesAt_24 rfl (zs_ri hR dX5_minutesAt_25))
set_option maxRecDepth 20000 in
theorem bX5_minutesAt_26 {X : pz_C} (hX : pz_X X cX5_minutesAt 4 RX5) : ∀ lv st g c s, (zo_al 1 3 (zo_get 10 2 (zo_as 1 3 (zo_goto 7 (pz_Z X 4))))) 26 lv st g c s → pz_Z X 4 26 lv st g c s := (zs_aload_n hX dX5_minutesAt_26 rfl (zs_get hX (C := RX8) (T := TX8) (N := 3) rfl in_X8 (by decide) mw_a66cadf3 dX5_minutesAt_27 (zs_astore_n hX dX5_minutesAt_30 rfl (by decide) (zs_goto hX dX5_minutesAt_31 (by decide) (fun _ _ _ _ _ _ h => h)))))
set_option maxRecDepth 20000 in
theorem bX5_minutesAt_34 {X : pz_C} {rm : Room} {E : Option pz_V → pz_H → Prop} (hX : pz_X X cX5_minutesAt 4 RX5) (hR : pz_Rt X cX5_minutesAt 4 (some .int) rm E) : ∀ lv st g c s, (zo_il 1 2 (zo_ri rm E)) 34 lv st g c s → pz_Z X 4 34 lv st g c s := (zs_iload_n hX dX5_minutesAt_34 rfl (zs_ri hR dX5_minutesAt_35))
set_option maxRecDepth 20000 in
theorem bX3_hasRoom_0 {X : pz_C} (hX : pz_X X cX3_hasRoom 1 RX3) : ∀ lv st g c s, (zo_al 1 0 (zo_get 5 4 (zo_ic 2 (12) (zo_ic_ge 13 (pz_Z X 1))))) 0 lv st g c s → pz_Z X 1 0 lv st g c s := (zs_aload_n hX dX3_hasRoom_0 rfl (zs_get hX (C := RX3) (T := TX3) (N := 11) rfl in_X3 (by decide) mw_eb463ec7 dX3_hasRoom_1 (zs_bipush hX dX3_hasRoom_4 (by decide) (zs_ic_ge hX dX3_hasRoom_6 (by decide) (fun _ _ _ _ _ _ h => h)))))
set_option maxRecDepth 20000 in
theorem bX3_hasRoom_9 {X : pz_C} (hX : pz_X X cX3_hasRoom 1 RX3) : ∀ lv st g c s, (zo_ic 1 (1) (zo_goto 14 (pz_Z X 1))) 9 lv st g c s → pz_Z X 1 9 lv st g c s := (zs_iconst hX dX3_hasRoom_9 (by decide) (zs_goto hX dX3_hasRoom_10 (by decide) (fun _ _ _ _ _ _ h => h)))
set_option maxRecDepth 20000 in
theorem bX3_hasRoom_13 {X : pz_C} (hX : pz_X X cX3_hasRoom 1 RX3) : ∀ lv st g c s, (zo_ic 1 (0) (pz_Z X 1)) 13 lv st g c s → pz_Z X 1 13 lv st g c s := (zs_iconst hX dX3_hasRoom_13 (by decide) (fun _ _ _ _ _ h => h))
set_option maxRecDepth 20000 in
theorem bX3_hasRoom_14 {X : pz_C} {rm : Room} {E : Option pz_V → pz_H → Prop} (hX : pz_X X cX3_hasRoom 1 RX3) (hR : pz_Rt X cX3_hasRoom 1 (some .boolean) rm E) : ∀ lv st g c s, (zo_rz rm E) 14 lv st g c s → pz_Z X 1 14 lv st g c s := (zs_rz hR dX3_hasRoom_14)
set_option maxRecDepth 20000 in
theorem bX3_lastLeaving_0 {X : pz_C} (hX : pz_X X cX3_lastLeaving 1 RX3) : ∀ lv st g c s, (zo_al 1 0 (zo_get 5 4 (zo_if_ne 11 (pz_Z X 1)))) 0 lv st g c s → pz_Z X 1 0 lv st g c s := (zs_aload_n hX dX3_lastLeaving_0 rfl (zs_get hX (C := RX3) (T := TX3) (N := 11) rfl in_X3 (by decide) mw_eb463ec7 dX3_lastLeaving_1 (zs_if_ne hX dX3_lastLeaving_4 (by decide) (fun _ _ _ _ _ _ h => h))))
set_option maxRecDepth 20000 in
theorem bX3_lastLeaving_7 {X : pz_C} (hX : pz_X X cX3_lastLeaving 1 RX3) : ∀ lv st g c s, (zo_ic 1 (0) (zo_goto 22 (pz_Z X 1))) 7 lv st g c s → pz_Z X 1 7 lv st g c s := (zs_iconst hX dX3_lastLeaving_7 (by decide) (zs_goto hX dX3_lastLeaving_8 (by decide) (fun _ _ _ _ _ _ h => h)))
set_option maxRecDepth 20000 in
theorem bX3_lastLeaving_11 {X : pz_C} (hX : pz_X X cX3_lastLeaving 1 RX3) : ∀ lv st g c s, (zo_al 1 0 (zo_get 5 3 (zo_al 1 0 (zo_get 5 4 (zo_ic 1 (1) (zo_isub (zo_iald (pz_Z X 1)))))))) 11 lv st g c s → pz_Z X 1 11 lv st g c s := (zs_aload_n hX dX3_lastLeaving_11 rfl (zs_get hX (C := RX3) (T := TX3) (N := 11) rfl in_X3 (by decide) mw_23200ee7 dX3_lastLeaving_12 (zs_aload_n hX dX3_lastLeaving_15 rfl (zs_get hX (C := RX3) (T := TX3) (N := 11) rfl in_X3 (by decide) mw_eb463ec7 dX3_lastLeaving_16 (zs_iconst hX dX3_lastLeaving_19 (by decide) (zs_isub hX dX3_lastLeaving_20 (zs_iald hX dX3_lastLeaving_21 (fun _ _ _ _ _ h => h))))))))
set_option maxRecDepth 20000 in
theorem bX3_lastLeaving_22 {X : pz_C} {rm : Room} {E : Option pz_V → pz_H → Prop} (hX : pz_X X cX3_lastLeaving 1 RX3) (hR : pz_Rt X cX3_lastLeaving 1 (some .int) rm E) : ∀ lv st g c s, (zo_ri rm E) 22 lv st g c s → pz_Z X 1 22 lv st g c s := (zs_ri hR dX3_lastLeaving_22)
/-! LineTimes$Place.minutesAt -/
def pl_ch (g : pz_H) : Option Nat → List (Int32 × Int32) → Prop
  | r, [] => r = none
  | r, (f, m) :: l => ∃ a b r', r = some a ∧ g a = some (b, .inr (10, [.inl f, .inl m, .inr (.inr r')])) ∧ pl_ch g r' l
def pl_min (sec : Int32) : Int32 → List (Int32 × Int32) → Int32
  | d, [] => d
  | _, (f, m) :: l => if f ≤ sec then m else pl_min sec m l
def rm_X5_minutesAt : Room := { frames := 0, cells := 0, slots := 0, locals := 0 }
abbrev gt_X5_minutesAt : Type := Nat × Int32 × List (Int32 × Int32)
def pr_X5_minutesAt : gt_X5_minutesAt → List pz_V → pz_H → Prop := fun (h, sec, zs) av g => av = [.inr (.inr (some h)), .inl sec] ∧ ∃ b r n c, g h = some (b, .inr (7, [.inr (.inr r), .inl n, .inl c])) ∧ pl_ch g r zs
def po_X5_minutesAt : gt_X5_minutesAt → List pz_V → pz_H → Option pz_V → pz_H → Prop := fun (h, sec, zs) av g v g' => g' = g ∧ v = some (.inl (pl_min sec 0 zs))
set_option maxRecDepth 20000 in
theorem ct_X5_minutesAt {G : pz_Gx} (hOk : pz_Ok G.2.2.2) (gh : gt_X5_minutesAt) : pz_M G yX5_minutesAt cX5_minutesAt 4 (some .int) rm_X5_minutesAt (pr_X5_minutesAt gh) (po_X5_minutesAt gh) := by
  obtain ⟨h, sec, zs⟩ := gh
  refine pz_ofZ (by decide) hOk (Or.inr (Or.inl rfl)) ?_ ?_
  · rintro av g ⟨rfl, -⟩
    exact Nat.le_of_ble_eq_true rfl
  · rintro X hX hGX hrm - av g ⟨rfl, b, r, n, c, hg, hz⟩ hR
    have loop : ∀ (zs2 : List (Int32 × Int32)) (r2 : Option Nat) (d : Int32), pl_ch g r2 zs2 → pl_min sec d zs2 = pl_min sec 0 zs → pz_Z X 4 7 [(3, .inr (.inr r2)), (2, .inl d), (0, .inr (.inr (some h))), (1, .inl sec)] [] g 0 0 := by
      intro zs2
      induction zs2 with
      | nil =>
        intro r2 d h2 he
        cases h2
        refine bX5_minutesAt_7 hX _ _ _ _ _ ⟨fun _ => ?_, fun a q => by cases q⟩
        exact bX5_minutesAt_34 hX hR _ _ _ _ _ ⟨Nat.le_refl _, Nat.le_refl _, rfl, by rw [← he]; rfl⟩
      | cons z l ih =>
        intro r2 d h2 he
        obtain ⟨f, mi⟩ := z
        obtain ⟨a, b2, r3, rfl, ha, h3⟩ := h2
        refine bX5_minutesAt_7 hX _ _ _ _ _ ⟨fun q => (by cases q), fun a q => ?_⟩
        refine bX5_minutesAt_11 hX _ _ _ _ _ ⟨_, _, _, ha, rfl, _, _, _, ha, rfl, fun q => ?_, fun q => ?_⟩
        · refine bX5_minutesAt_26 hX _ _ _ _ _ ⟨_, _, _, ha, rfl, ?_⟩
          refine ih r3 mi h3 ?_
          rw [← he]
          show _ = if f ≤ sec then mi else pl_min sec mi l
          rw [if_neg (by rw [Int32.not_le]; exact q)]
        · refine bX5_minutesAt_24 hX hR _ _ _ _ _ ⟨Nat.le_refl _, Nat.le_refl _, rfl, ?_⟩
          rw [← he]
          show _ = some (Sum.inl (if f ≤ sec then mi else pl_min sec mi l))
          rw [if_pos (by rw [← Int32.not_lt]; exact q)]
    refine bX5_minutesAt_0 hX _ _ _ _ _ ⟨_, _, _, hg, rfl, ?_⟩
    exact loop zs r 0 hz rfl
