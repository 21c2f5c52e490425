/-! LineTimes: requireJourney, step, least -/
set_option maxRecDepth 20000 in
theorem bX9_requireJourney_0 {X : pz_C} (hX : pz_X X cX9_requireJourney 4 RX9) : ∀ lv st g c s, (zo_il 1 0 (zo_ic 2 (100) (pz_Z X 4))) 0 lv st g c s → pz_Z X 4 0 lv st g c s := (zs_iload_n hX dX9_requireJourney_0 rfl (zs_bipush hX dX9_requireJourney_1 (by decide) (fun _ _ _ _ _ h => h)))
set_option maxRecDepth 20000 in
theorem bX9_requireJourney_3 {X : pz_C} {G : pz_Gx} {sa md mi : Nat} {PX : String → pz_H → Prop} {rm : Room} (hX : pz_X X cX9_requireJourney 4 RX9) (hrm : pz_rm X = rm) (hGX : pz_GX X G) (hOk : pz_O3 G sa md mi) (hT : pz_Te X 4 rm PX) (gh : gt_X9_requireIndex) (hr_X9_requireIndex : rm_X9_requireIndex.frames + 1 ≤ rm.frames ∧ 8 + (2 + 11) + rm_X9_requireIndex.locals ≤ rm.locals) : ∀ lv st g c s, (zo_csX rm 2 3 rm_X9_requireIndex.cells rm_X9_requireIndex.slots (pr_X9_requireIndex gh) (po_X9_requireIndex gh) (px_X9_requireIndex gh) (zo_te rm PX) (zo_kv (zo_il 1 1 (zo_ic 2 (100) (pz_Z X 4))))) 3 lv st g c s → pz_Z X 4 3 lv st g c s := by
  subst hrm
  exact (zs_csSX hX hGX (ct_X9_requireIndex hOk gh) mw_4ee6c08a mw_6fa824eb mw_8bb91264 mw_b75cb11b (by decide +kernel) hr_X9_requireIndex dX9_requireJourney_3 (zs_te hT) (zs_kv (zs_iload_n hX dX9_requireJourney_6 rfl (zs_bipush hX dX9_requireJourney_7 (by decide) (fun _ _ _ _ _ h => h)))))
set_option maxRecDepth 20000 in
theorem bX9_requireJourney_9 {X : pz_C} {G : pz_Gx} {sa md mi : Nat} {PX : String → pz_H → Prop} {rm : Room} (hX : pz_X X cX9_requireJourney 4 RX9) (hrm : pz_rm X = rm) (hGX : pz_GX X G) (hOk : pz_O3 G sa md mi) (hT : pz_Te X 4 rm PX) (gh : gt_X9_requireIndex) (hr_X9_requireIndex : rm_X9_requireIndex.frames + 1 ≤ rm.frames ∧ 8 + (2 + 11) + rm_X9_requireIndex.locals ≤ rm.locals) : ∀ lv st g c s, (zo_csX rm 2 3 rm_X9_requireIndex.cells rm_X9_requireIndex.slots (pr_X9_requireIndex gh) (po_X9_requireIndex gh) (px_X9_requireIndex gh) (zo_te rm PX) (zo_kv (zo_ll 1 2 (zo_lc 1 (0) (zo_lc 3 (1700000000) (pz_Z X 4)))))) 9 lv st g c s → pz_Z X 4 9 lv st g c s := by
  subst hrm
  exact (zs_csSX hX hGX (ct_X9_requireIndex hOk gh) mw_4ee6c08a mw_6fa824eb mw_8bb91264 mw_b75cb11b (by decide +kernel) hr_X9_requireIndex dX9_requireJourney_9 (zs_te hT) (zs_kv (zs_lload_n hX dX9_requireJourney_12 rfl (zs_lconst hX dX9_requireJourney_13 (by decide) (zs_ldc2 hX dX9_requireJourney_14 mw_35199a67 (fun _ _ _ _ _ h => h))))))
set_option maxRecDepth 20000 in
theorem bX9_requireJourney_17 {X : pz_C} {G : pz_Gx} {sa md mi : Nat} {PX : String → pz_H → Prop} {rm : Room} {E : Option pz_V → pz_H → Prop} (hX : pz_X X cX9_requireJourney 4 RX9) (hR : pz_Rt X cX9_requireJourney 4 none rm E) (hrm : pz_rm X = rm) (hGX : pz_GX X G) (hOk : pz_O3 G sa md mi) (hT : pz_Te X 4 rm PX) (gh : gt_X9_requireRange) (hr_X9_requireRange : rm_X9_requireRange.frames + 1 ≤ rm.frames ∧ 8 + (6 + 11) + rm_X9_requireRange.locals ≤ rm.locals) : ∀ lv st g c s, (zo_csX rm 3 3 rm_X9_requireRange.cells rm_X9_requireRange.slots (pr_X9_requireRange gh) (po_X9_requireRange gh) (px_X9_requireRange gh) (zo_te rm PX) (zo_kv (zo_rv rm E))) 17 lv st g c s → pz_Z X 4 17 lv st g c s := by
  subst hrm
  exact (zs_csSX hX hGX (ct_X9_requireRange hOk gh) mw_6378151b mw_14fb916b mw_8bb91264 mw_a40b3fa2 (by decide +kernel) hr_X9_requireRange dX9_requireJourney_17 (zs_te hT) (zs_kv (zs_rv hR dX9_requireJourney_20)))
def rm_X9_requireJourney : Room := { frames := 7, cells := 3, slots := 18, locals := 107 }
abbrev gt_X9_requireJourney : Type := Int32 × Int32 × Int64
def pr_X9_requireJourney : gt_X9_requireJourney → List pz_V → pz_H → Prop := fun (a, b, t) av g => av = [.inl (a), .inl (b), .inr (.inl (t))]
def po_X9_requireJourney : gt_X9_requireJourney → List pz_V → pz_H → Option pz_V → pz_H → Prop := fun (a, b, t) _ g v g' => v = none ∧ g' = g ∧ ¬ bdI a 100 ∧ ¬ bdI b 100 ∧ ¬ bdR t 0 1700000000
def px_X9_requireJourney : gt_X9_requireJourney → List pz_V → pz_H → String → pz_H → Prop := fun (a, b, t) _ g E g' => g' = g ∧ ((E = nIOB ∧ (bdI a 100 ∨ bdI b 100)) ∨ (E = nIAE ∧ ¬ bdI a 100 ∧ ¬ bdI b 100 ∧ bdR t 0 1700000000))
theorem ct_X9_requireJourney {G : pz_Gx} {sa md mi : Nat} (hOk : pz_O3 G sa md mi) (gh : gt_X9_requireJourney) : pz_MX G yX9_requireJourney cX9_requireJourney 4 none rm_X9_requireJourney (pr_X9_requireJourney gh) (po_X9_requireJourney gh) (px_X9_requireJourney gh) := by
  obtain ⟨a, b, t⟩ := gh
  refine pz_ofZX (by decide) hOk.1.1.1 (Or.inl rfl) ?_ ?_
  · rintro av g rfl
    exact Nat.le_of_ble_eq_true rfl
  · rintro X hX hGX hrm av g rfl hR hT -
    refine bX9_requireJourney_0 hX _ _ _ _ _ ?_
    refine bX9_requireJourney_3 hX hrm hGX hOk hT (a, 100) (by decide) _ _ _ _ _ ⟨Nat.le_of_ble_eq_true rfl, Nat.le_of_ble_eq_true rfl, Nat.le_of_ble_eq_true rfl, Nat.le_of_ble_eq_true rfl, rfl, ?_, ?_⟩
    · rintro E g2 ⟨rfl, rfl, hb⟩
      exact ⟨Nat.le_of_ble_eq_true rfl, Nat.le_of_ble_eq_true rfl, rfl, Or.inl ⟨rfl, Or.inl hb⟩⟩
    rintro v g2 ⟨rfl, rfl, h1⟩ -
    refine bX9_requireJourney_9 hX hrm hGX hOk hT (b, 100) (by decide) _ _ _ _ _ ⟨Nat.le_of_ble_eq_true rfl, Nat.le_of_ble_eq_true rfl, Nat.le_of_ble_eq_true rfl, Nat.le_of_ble_eq_true rfl, rfl, ?_, ?_⟩
    · rintro E g2 ⟨rfl, rfl, hb⟩
      exact ⟨Nat.le_of_ble_eq_true rfl, Nat.le_of_ble_eq_true rfl, rfl, Or.inl ⟨rfl, Or.inr hb⟩⟩
    rintro v g2 ⟨rfl, rfl, h2⟩ -
    refine bX9_requireJourney_17 hX hR hrm hGX hOk hT (t, 0, 1700000000) (by decide) _ _ _ _ _ ⟨Nat.le_of_ble_eq_true rfl, Nat.le_of_ble_eq_true rfl, Nat.le_of_ble_eq_true rfl, Nat.le_of_ble_eq_true rfl, rfl, ?_, ?_⟩
    · rintro E g2 ⟨rfl, rfl, hb⟩
      exact ⟨Nat.le_of_ble_eq_true rfl, Nat.le_of_ble_eq_true rfl, rfl, Or.inr ⟨rfl, h1, h2, hb⟩⟩
    rintro v g2 ⟨rfl, rfl, h3⟩ -
    exact ⟨Nat.le_of_ble_eq_true rfl, Nat.le_of_ble_eq_true rfl, rfl, rfl, h1, h2, h3⟩
set_option maxRecDepth 20000 in
theorem bX9_step_0 {X : pz_C} (hX : pz_X X cX9_step 3 RX9) : ∀ lv st g c s, (zo_il 1 2 (zo_i2l (zo_lc 1 (0) (zo_lc 3 (5) (pz_Z X 3))))) 0 lv st g c s → pz_Z X 3 0 lv st g c s := (zs_iload_n hX dX9_step_0 rfl (zs_i2l hX dX9_step_1 (zs_lconst hX dX9_step_2 (by decide) (zs_ldc2 hX dX9_step_3 mw_3793eb9b (fun _ _ _ _ _ h => h)))))
set_option maxRecDepth 20000 in
theorem bX9_step_6 {X : pz_C} {G : pz_Gx} {sa md mi : Nat} {PX : String → pz_H → Prop} {rm : Room} (hX : pz_X X cX9_step 3 RX9) (hrm : pz_rm X = rm) (hGX : pz_GX X G) (hOk : pz_O3 G sa md mi) (hT : pz_Te X 3 rm PX) (gh : gt_X9_requireRange) (hr_X9_requireRange : rm_X9_requireRange.frames + 1 ≤ rm.frames ∧ 8 + (6 + 11) + rm_X9_requireRange.locals ≤ rm.locals) : ∀ lv st g c s, (zo_csX rm 3 3 rm_X9_requireRange.cells rm_X9_requireRange.slots (pr_X9_requireRange gh) (po_X9_requireRange gh) (px_X9_requireRange gh) (zo_te rm PX) (zo_kv (zo_il 1 1 (zo_if_lt 24 (pz_Z X 3))))) 6 lv st g c s → pz_Z X 3 6 lv st g c s := by
  subst hrm
  exact (zs_csSX hX hGX (ct_X9_requireRange hOk gh) mw_6378151b mw_14fb916b mw_8bb91264 mw_a40b3fa2 (by decide +kernel) hr_X9_requireRange dX9_step_6 (zs_te hT) (zs_kv (zs_iload_n hX dX9_step_9 rfl (zs_if_lt hX dX9_step_10 (by decide) (fun _ _ _ _ _ _ h => h)))))
set_option maxRecDepth 20000 in
theorem bX9_step_13 {X : pz_C} (hX : pz_X X cX9_step 3 RX9) : ∀ lv st g c s, (zo_il 1 1 (zo_al 1 0 (zo_get 11 1 (zo_get 9 1 (zo_ic_lt 26 (pz_Z X 3)))))) 13 lv st g c s → pz_Z X 3 13 lv st g c s := (zs_iload_n hX dX9_step_13 rfl (zs_aload_n hX dX9_step_14 rfl (zs_get hX (C := RX9) (T := TX9) (N := 7) rfl in_X9 (by decide) mw_11019c59 dX9_step_15 (zs_get hX (C := RX7) (T := TX7) (N := 2) rfl in_X7 (by decide) mw_51b83fa8 dX9_step_18 (zs_ic_lt hX dX9_step_21 (by decide) (fun _ _ _ _ _ _ h => h))))))
set_option maxRecDepth 20000 in
theorem bX9_step_24 {X : pz_C} {rm : Room} {E : Option pz_V → pz_H → Prop} (hX : pz_X X cX9_step 3 RX9) (hR : pz_Rt X cX9_step 3 (some .int) rm E) : ∀ lv st g c s, (zo_ic 1 (-1) (zo_ri rm E)) 24 lv st g c s → pz_Z X 3 24 lv st g c s := (zs_iconst hX dX9_step_24 (by decide) (zs_ri hR dX9_step_25))
set_option maxRecDepth 20000 in
theorem bX9_step_26 {X : pz_C} {rm : Room} {E : Option pz_V → pz_H → Prop} (hX : pz_X X cX9_step 3 RX9) (hR : pz_Rt X cX9_step 3 (some .int) rm E) : ∀ lv st g c s, (zo_al 1 0 (zo_get 11 1 (zo_get 9 0 (zo_il 1 1 (zo_aald 6 (zo_il 1 2 (zo_iald (zo_ri rm E)))))))) 26 lv st g c s → pz_Z X 3 26 lv st g c s := (zs_aload_n hX dX9_step_26 rfl (zs_get hX (C := RX9) (T := TX9) (N := 7) rfl in_X9 (by decide) mw_11019c59 dX9_step_27 (zs_get hX (C := RX7) (T := TX7) (N := 2) rfl in_X7 (by decide) mw_c5de000f dX9_step_30 (zs_iload_n hX dX9_step_33 rfl (zs_aald hX (ty := (.array .int)) (fun _ => rfl) rfl dX9_step_34 (zs_iload_n hX dX9_step_35 rfl (zs_iald hX dX9_step_36 (zs_ri hR dX9_step_37))))))))
def rm_X9_step : Room := { frames := 7, cells := 1, slots := 6, locals := 107 }
abbrev gt_X9_step : Type := (Nat × Int32 × Int32) × (Nat × Nat × Nat × Nat) × (Nat × Nat × Nat) × (Nat × Nat × (Nat → Nat) × (Nat → Nat → Int32))
def pr_X9_step : gt_X9_step → List pz_V → pz_H → Prop := fun ((h, i, w), (nt, wy, lv, tx), (ne, nz, nw), (lg, K, Pa, pf)) av g => av = [.inr (.inr (some (h))), .inl (i), .inl (w)] ∧ K ≤ 6 ∧ ltS g h nt wy lv tx ne nz nw ∧ wyS g wy lg (nI K) Pa pf
def po_X9_step : gt_X9_step → List pz_V → pz_H → Option pz_V → pz_H → Prop := fun ((h, i, w), (nt, wy, lv, tx), (ne, nz, nw), (lg, K, Pa, pf)) _ g v g' => g' = g ∧ ¬ bdR w.toInt64 0 5 ∧ v = some (.inl (if i < 0 ∨ nI K ≤ i then -1 else pf i.toNatClampNeg w.toNatClampNeg))
def px_X9_step : gt_X9_step → List pz_V → pz_H → String → pz_H → Prop := fun ((h, i, w), (nt, wy, lv, tx), (ne, nz, nw), (lg, K, Pa, pf)) _ g E g' => E = nIAE ∧ g' = g ∧ bdR w.toInt64 0 5
theorem ct_X9_step {G : pz_Gx} {sa md mi : Nat} (hOk : pz_O3 G sa md mi) (gh : gt_X9_step) : pz_MX G yX9_step cX9_step 3 (some .int) rm_X9_step (pr_X9_step gh) (po_X9_step gh) (px_X9_step gh) := by
  obtain ⟨⟨h, i, w⟩, ⟨nt, wy, lv, tx⟩, ⟨ne, nz, nw⟩, lg, K, Pa, pf⟩ := gh
  refine pz_ofZX (by decide) hOk.1.1.1 (Or.inr (Or.inl rfl)) ?_ ?_
  · rintro av g ⟨rfl, -⟩
    exact Nat.le_of_ble_eq_true rfl
  · rintro X hX hGX hrm av g ⟨rfl, hK, hlt, hwy⟩ hR hT -
    refine bX9_step_0 hX _ _ _ _ _ ?_
    refine bX9_step_6 hX hrm hGX hOk hT (w.toInt64, 0, 5) (by decide) _ _ _ _ _ ⟨Nat.le_of_ble_eq_true rfl, Nat.le_of_ble_eq_true rfl, Nat.le_of_ble_eq_true rfl, Nat.le_of_ble_eq_true rfl, rfl, ?_, ?_⟩
    · rintro E g2 ⟨rfl, rfl, hb⟩
      exact ⟨Nat.le_of_ble_eq_true rfl, Nat.le_of_ble_eq_true rfl, rfl, rfl, hb⟩
    rintro v g2 ⟨rfl, rfl, h1⟩ -
    have none : (i < 0 ∨ nI K ≤ i) → pz_Z X 3 24 [(0, .inr (.inr (some (h)))), (1, .inl (i)), (2, .inl (w))] [] g2 1 6 := fun hb => bX9_step_24 hX hR _ _ _ _ _ ⟨Nat.le_of_ble_eq_true rfl, Nat.le_of_ble_eq_true rfl, rfl, h1, by rw [if_pos hb]⟩
    refine ⟨fun q => none (Or.inl q), fun q => ?_⟩
    obtain ⟨w1, ⟨o, w2, w3⟩, w4⟩ := id hwy
    refine bX9_step_13 hX _ _ _ _ _ ⟨_, _, _, hlt, rfl, _, _, _, w1, rfl, fun q2 => ?_, fun q2 => none (Or.inr (Int32.not_lt.mp q2))⟩
    obtain ⟨k, hk, rfl⟩ := nI_of (x := i) q
    have hkK : k < K := (nI_ltI hk (by omega)).mp q2
    have hw : ∃ x, x < 6 ∧ w = nI x := by
      have hb : ¬ (w.toInt64 < 0 ∨ 5 < w.toInt64) := h1
      rw [i6_lt, i6_lt, Int32.toInt_toInt64, show (0 : Int64).toInt = 0 from rfl, show (5 : Int64).toInt = 5 from rfl] at hb
      obtain ⟨x, hx, e⟩ := nI_of (x := w) (by rw [i3_lt, show (0 : Int32).toInt = 0 from rfl]; omega)
      refine ⟨x, ?_, e⟩
      rw [e, nI_toInt hx] at hb
      omega
    obtain ⟨x, hx, rfl⟩ := hw
    have hck : (nI k).toNatClampNeg = k := ni_cl (by omega)
    refine bX9_step_26 hX hR _ _ _ _ _ ⟨_, _, _, hlt, rfl, _, _, _, w1, rfl, _, _, _, w2, ni_in (by omega) (by omega), ?_⟩
    rw [hck, w3 k (by omega)]
    refine ⟨_, _, _, w4 k (by omega), ni_in (by omega) (by omega), Nat.le_of_ble_eq_true rfl, Nat.le_of_ble_eq_true rfl, rfl, h1, ?_⟩
    rw [if_neg (fun e => by rcases e with e | e; exact q e; exact absurd q2 (Int32.not_lt.mpr e)), hck]
