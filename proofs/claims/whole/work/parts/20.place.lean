/-! LineTimes$Place: a place's zone rows, the latest in front; minutesAt -/
set_option maxRecDepth 20000 in
theorem bX5_minutesAt_0 {X : pz_C} (hX : pz_X X cX5_minutesAt 4 RX5) : ∀ lv st g c s, (zo_ic 1 (0) (zo_is 1 2 (zo_al 1 0 (zo_get 7 0 (zo_as 1 3 (pz_Z X 4)))))) 0 lv st g c s → pz_Z X 4 0 lv st g c s := (zs_iconst hX dX5_minutesAt_0 (by decide) (zs_istore_n hX dX5_minutesAt_1 rfl (by decide) (zs_aload_n hX dX5_minutesAt_2 rfl (zs_get hX (C := RX5) (T := TX5) (N := 3) rfl in_X5 (by decide) mw_902ce658 dX5_minutesAt_3 (zs_astore_n hX dX5_minutesAt_6 rfl (by decide) (fun _ _ _ _ _ h => h))))))
set_option maxRecDepth 20000 in
theorem bX5_minutesAt_7 {X : pz_C} (hX : pz_X X cX5_minutesAt 4 RX5) : ∀ lv st g c s, (zo_al 1 3 (zo_ifnull 34 (pz_Z X 4))) 7 lv st g c s → pz_Z X 4 7 lv st g c s := (zs_aload_n hX dX5_minutesAt_7 rfl (zs_ifnull hX dX5_minutesAt_8 (by decide) (fun _ _ _ _ _ _ h => h)))
set_option maxRecDepth 20000 in
theorem bX5_minutesAt_11 {X : pz_C} (hX : pz_X X cX5_minutesAt 4 RX5) : ∀ lv st g c s, (zo_al 1 3 (zo_get 10 1 (zo_is 1 2 (zo_al 1 3 (zo_get 10 0 (zo_il 1 1 (zo_ic_gt 26 (pz_Z X 4)))))))) 11 lv st g c s → pz_Z X 4 11 lv st g c s := (zs_aload_n hX dX5_minutesAt_11 rfl (zs_get hX (C := RX8) (T := TX8) (N := 3) rfl in_X8 (by decide) mw_efc3a75f dX5_minutesAt_12 (zs_istore_n hX dX5_minutesAt_15 rfl (by decide) (zs_aload_n hX dX5_minutesAt_16 rfl (zs_get hX (C := RX8) (T := TX8) (N := 3) rfl in_X8 (by decide) mw_8d18b59e dX5_minutesAt_17 (zs_iload_n hX dX5_minutesAt_20 rfl (zs_ic_gt hX dX5_minutesAt_21 (by decide) (fun _ _ _ _ _ _ h => h))))))))
set_option maxRecDepth 20000 in
theorem bX5_minutesAt_24 {X : pz_C} {rm : Room} {E : Option pz_V → pz_H → Prop} (hX : pz_X X cX5_minutesAt 4 RX5) (hR : pz_Rt X cX5_minutesAt 4 (some .int) rm E) : ∀ lv st g c s, (zo_il 1 2 (zo_ri rm E)) 24 lv st g c s → pz_Z X 4 24 lv st g c s := (zs_iload_n hX dX5_minutesAt_24 rfl (zs_ri hR dX5_minutesAt_25))
set_option maxRecDepth 20000 in
theorem bX5_minutesAt_26 {X : pz_C} (hX : pz_X X cX5_minutesAt 4 RX5) : ∀ lv st g c s, (zo_al 1 3 (zo_get 10 2 (zo_as 1 3 (zo_goto 7 (pz_Z X 4))))) 26 lv st g c s → pz_Z X 4 26 lv st g c s := (zs_aload_n hX dX5_minutesAt_26 rfl (zs_get hX (C := RX8) (T := TX8) (N := 3) rfl in_X8 (by decide) mw_a66cadf3 dX5_minutesAt_27 (zs_astore_n hX dX5_minutesAt_30 rfl (by decide) (zs_goto hX dX5_minutesAt_31 (by decide) (fun _ _ _ _ _ _ h => h)))))
set_option maxRecDepth 20000 in
theorem bX5_minutesAt_34 {X : pz_C} {rm : Room} {E : Option pz_V → pz_H → Prop} (hX : pz_X X cX5_minutesAt 4 RX5) (hR : pz_Rt X cX5_minutesAt 4 (some .int) rm E) : ∀ lv st g c s, (zo_il 1 2 (zo_ri rm E)) 34 lv st g c s → pz_Z X 4 34 lv st g c s := (zs_iload_n hX dX5_minutesAt_34 rfl (zs_ri hR dX5_minutesAt_35))
def pl_ch (g : pz_H) (p : Nat) : Option Nat → List (Int32 × Int32) → Prop
  | r, [] => r = none
  | r, (f, m) :: l => ∃ a r', r = some a ∧ g a = some ([21, p, f.toNatClampNeg], .inr (10, [.inl f, .inl m, .inr (.inr r')])) ∧ pl_ch g p r' l
def pl_min (sec : Int32) : Int32 → List (Int32 × Int32) → Int32
  | d, [] => d
  | _, (f, m) :: l => if f ≤ sec then m else pl_min sec m l
def rm_X5_minutesAt : Room := { frames := 0, cells := 0, slots := 0, locals := 0 }
abbrev gt_X5_minutesAt : Type := Nat × Int32 × Nat × List (Int32 × Int32)
def pr_X5_minutesAt : gt_X5_minutesAt → List pz_V → pz_H → Prop := fun (h, sec, p, zs) av g => av = [.inr (.inr (some h)), .inl sec] ∧ ∃ b r n c, g h = some (b, .inr (7, [.inr (.inr r), .inl n, .inl c])) ∧ pl_ch g p r zs
def po_X5_minutesAt : gt_X5_minutesAt → List pz_V → pz_H → Option pz_V → pz_H → Prop := fun (_, sec, _, zs) _ g v g' => g' = g ∧ v = some (.inl (pl_min sec 0 zs))
set_option maxRecDepth 20000 in
theorem ct_X5_minutesAt {G : pz_Gx} (hOk : pz_OK G) (gh : gt_X5_minutesAt) : pz_M G yX5_minutesAt cX5_minutesAt 4 (some .int) rm_X5_minutesAt (pr_X5_minutesAt gh) (po_X5_minutesAt gh) := by
  obtain ⟨h, sec, p, zs⟩ := gh
  refine pz_ofZ (by decide) hOk.1 (Or.inr (Or.inl rfl)) ?_ ?_
  · rintro av g ⟨rfl, -⟩
    exact Nat.le_of_ble_eq_true rfl
  · rintro X hX hGX hrm - av g ⟨rfl, b, r, n, c, hg, hz⟩ hR
    have loop : ∀ (zs2 : List (Int32 × Int32)) (r2 : Option Nat) (d : Int32), pl_ch g p r2 zs2 → pl_min sec d zs2 = pl_min sec 0 zs → pz_Z X 4 7 [(3, .inr (.inr r2)), (2, .inl d), (0, .inr (.inr (some h))), (1, .inl sec)] [] g 0 0 := by
      intro zs2
      induction zs2 with
      | nil =>
        intro r2 d h2 he
        cases h2
        refine bX5_minutesAt_7 hX _ _ _ _ _ ⟨fun _ => ?_, fun a q => by cases q⟩
        exact bX5_minutesAt_34 hX hR _ _ _ _ _ ⟨Nat.le_refl _, Nat.le_refl _, rfl, by rw [← he]; rfl⟩
      | cons z l ih =>
        intro r2 d h2 he
        obtain ⟨f, mi⟩ := z
        obtain ⟨a, r3, rfl, ha, h3⟩ := h2
        refine bX5_minutesAt_7 hX _ _ _ _ _ ⟨fun q => (by cases q), fun a q => ?_⟩
        refine bX5_minutesAt_11 hX _ _ _ _ _ ⟨_, _, _, ha, rfl, _, _, _, ha, rfl, fun q => ?_, fun q => ?_⟩
        · refine bX5_minutesAt_26 hX _ _ _ _ _ ⟨_, _, _, ha, rfl, ?_⟩
          refine ih r3 mi h3 ?_
          rw [← he]
          show _ = if f ≤ sec then mi else pl_min sec mi l
          rw [if_neg (by rw [Int32.not_le]; exact q)]
        · refine bX5_minutesAt_24 hX hR _ _ _ _ _ ⟨Nat.le_refl _, Nat.le_refl _, rfl, ?_⟩
          rw [← he]
          show _ = some (Sum.inl (if f ≤ sec then mi else pl_min sec mi l))
          rw [if_pos (by rw [← Int32.not_lt]; exact q)]
    refine bX5_minutesAt_0 hX _ _ _ _ _ ⟨_, _, _, hg, rfl, ?_⟩
    exact loop zs r 0 hz rfl
