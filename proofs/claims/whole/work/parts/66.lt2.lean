/-! LineTimes: least, sign, isLeap, days -/
theorem bR_nI {x : Int64} {b : Nat} (hb : b < 2147483648) (h : ¬ bdR x 0 (lN b)) : ∃ k, k ≤ b ∧ x = lN k := by
  have h' : ¬ (x < 0 ∨ lN b < x) := h
  obtain ⟨k, hk, rfl⟩ := pk_lOf (x := x) (fun e => h' (Or.inl e))
  refine ⟨k, ?_, rfl⟩
  refine Classical.byContradiction fun e => h' (Or.inr ((pk_lLT (by omega) hk).mpr (by omega)))
theorem bI_nI {x : Int32} {b : Nat} (hb : b ≤ 1000000) (h : ¬ bdI x (nI b)) : ∃ k, k < b ∧ x = nI k := by
  have h' : ¬ (x < 0 ∨ nI b ≤ x) := h
  obtain ⟨k, hk, rfl⟩ := nI_of (x := x) (fun e => h' (Or.inl e))
  refine ⟨k, ?_, rfl⟩
  refine Classical.byContradiction fun e => h' (Or.inr ((nI_leI (by omega) hk).mpr (by omega)))
set_option maxRecDepth 20000 in
theorem bX9_least_0 {X : pz_C} (hX : pz_X X cX9_least 6 RX9) : ∀ lv st g c s, (zo_il 1 1 (zo_ic 2 (100) (pz_Z X 6))) 0 lv st g c s → pz_Z X 6 0 lv st g c s := (zs_iload_n hX dX9_least_0 rfl (zs_bipush hX dX9_least_1 (by decide) (fun _ _ _ _ _ h => h)))
set_option maxRecDepth 20000 in
theorem bX9_least_3 {X : pz_C} {G : pz_Gx} {sa md mi : Nat} {PX : String → pz_H → Prop} {rm : Room} (hX : pz_X X cX9_least 6 RX9) (hrm : pz_rm X = rm) (hGX : pz_GX X G) (hOk : pz_O3 G sa md mi) (hT : pz_Te X 6 rm PX) (gh : gt_X9_requireIndex) (hr_X9_requireIndex : rm_X9_requireIndex.frames + 1 ≤ rm.frames ∧ 8 + (2 + 11) + rm_X9_requireIndex.locals ≤ rm.locals) : ∀ lv st g c s, (zo_csX rm 2 3 rm_X9_requireIndex.cells rm_X9_requireIndex.slots (pr_X9_requireIndex gh) (po_X9_requireIndex gh) (px_X9_requireIndex gh) (zo_te rm PX) (zo_kv (zo_ll 1 2 (zo_lc 1 (0) (zo_lc 3 (100000) (pz_Z X 6)))))) 3 lv st g c s → pz_Z X 6 3 lv st g c s := by
  subst hrm
  exact (zs_csSX hX hGX (ct_X9_requireIndex hOk gh) mw_4ee6c08a mw_6fa824eb mw_8bb91264 mw_b75cb11b (by decide +kernel) hr_X9_requireIndex dX9_least_3 (zs_te hT) (zs_kv (zs_lload_n hX dX9_least_6 rfl (zs_lconst hX dX9_least_7 (by decide) (zs_ldc2 hX dX9_least_8 mw_b5038bfd (fun _ _ _ _ _ h => h))))))
set_option maxRecDepth 20000 in
theorem bX9_least_11 {X : pz_C} {G : pz_Gx} {sa md mi : Nat} {PX : String → pz_H → Prop} {rm : Room} {E : Option pz_V → pz_H → Prop} (hX : pz_X X cX9_least 6 RX9) (hR : pz_Rt X cX9_least 6 (some .int) rm E) (hrm : pz_rm X = rm) (hGX : pz_GX X G) (hOk : pz_O3 G sa md mi) (hT : pz_Te X 6 rm PX) (gh : gt_X9_requireRange) (hr_X9_requireRange : rm_X9_requireRange.frames + 1 ≤ rm.frames ∧ 8 + (6 + 11) + rm_X9_requireRange.locals ≤ rm.locals) : ∀ lv st g c s, (zo_csX rm 3 3 rm_X9_requireRange.cells rm_X9_requireRange.slots (pr_X9_requireRange gh) (po_X9_requireRange gh) (px_X9_requireRange gh) (zo_te rm PX) (zo_kv (zo_al 1 0 (zo_get 11 0 (zo_get 6 1 (zo_il 1 1 (zo_aald 4 (zo_as 2 4 (zo_al 2 4 (zo_get 7 2 (zo_is 2 5 (zo_al 2 4 (zo_ll 1 2 (zo_l2i (zo_puti 7 2 (zo_il 2 5 (zo_ri rm E))))))))))))))))) 11 lv st g c s → pz_Z X 6 11 lv st g c s := by
  subst hrm
  exact (zs_csSX hX hGX (ct_X9_requireRange hOk gh) mw_6378151b mw_14fb916b mw_8bb91264 mw_a40b3fa2 (by decide +kernel) hr_X9_requireRange dX9_least_11 (zs_te hT) (zs_kv (zs_aload_n hX dX9_least_14 rfl (zs_get hX (C := RX9) (T := TX9) (N := 7) rfl in_X9 (by decide) mw_a7a80db5 dX9_least_15 (zs_get hX (C := RX4) (T := TX4) (N := 5) rfl in_X4 (by decide) mw_f913a6e7 dX9_least_18 (zs_iload_n hX dX9_least_21 rfl (zs_aald hX (ty := (.object "LineTimes$Place")) (fun _ => rfl) rfl dX9_least_22 (zs_astore hX dX9_least_23 (by decide) (zs_aload hX dX9_least_25 (zs_get hX (C := RX5) (T := TX5) (N := 3) rfl in_X5 (by decide) mw_7e0e5b8e dX9_least_27 (zs_istore hX dX9_least_30 (by decide) (zs_aload hX dX9_least_32 (zs_lload_n hX dX9_least_34 rfl (zs_l2i hX dX9_least_35 (zs_puti hX (C := RX5) (T := TX5) (N := 3) rfl in_X5 (by decide) mw_7e0e5b8e tyX5 tyX5_ok nmX5 (by decide +kernel) rfl dX9_least_36 (zs_iload hX dX9_least_39 (zs_ri hR dX9_least_41)))))))))))))))))
def rm_X9_least : Room := { frames := 7, cells := 2, slots := 12, locals := 107 }
abbrev gt_X9_least : Type := (Nat × Int32 × Int64) × (Nat × Nat × Nat × Nat) × (Nat × Nat × Nat) × (Nat × Nat × Nat × Nat × Int32 × (Nat → Nat)) × ((Nat → Nat) × (Nat → List (Int32 × Int32)) × (Nat → Int32) × (Nat → Int32))
def pr_X9_least : gt_X9_least → List pz_V → pz_H → Prop := fun ((h, p, x), (nt, wy, lv, tx), (ne, nz, nw), (la, pa, na, so, fd, Wa), (fp, Z, N, C)) av g => av = [.inr (.inr (some (h))), .inl (p), .inr (.inl (x))] ∧ ltS g h nt wy lv tx ne nz nw ∧ ntS g nt la pa na so fd Wa ∧ plS g pa fp Z N C
def po_X9_least : gt_X9_least → List pz_V → pz_H → Option pz_V → pz_H → Prop := fun ((h, p, x), (nt, wy, lv, tx), (ne, nz, nw), (la, pa, na, so, fd, Wa), (fp, Z, N, C)) _ g v g' => ∃ k, k < 100 ∧ p = nI k ∧ ¬ bdR x 0 100000 ∧ v = some (.inl (C k)) ∧ hg (fun b => b = [20, k]) g g' ∧ plS g' pa fp Z N (upd C k x.toInt32)
def px_X9_least : gt_X9_least → List pz_V → pz_H → String → pz_H → Prop := fun ((h, p, x), _) _ g E g' => g' = g ∧ ((E = nIOB ∧ bdI p 100) ∨ (E = nIAE ∧ ¬ bdI p 100 ∧ bdR x 0 100000))
set_option maxRecDepth 20000 in
theorem ct_X9_least {G : pz_Gx} {sa md mi : Nat} (hOk : pz_O3 G sa md mi) (gh : gt_X9_least) : pz_MX G yX9_least cX9_least 6 (some .int) rm_X9_least (pr_X9_least gh) (po_X9_least gh) (px_X9_least gh) := by
  obtain ⟨⟨h, p, x⟩, ⟨nt, wy, lv, tx⟩, ⟨ne, nz, nw⟩, ⟨la, pa, na, so, fd, Wa⟩, fp, Z, N, C⟩ := gh
  refine pz_ofZX (by decide) hOk.1.1.1 (Or.inr (Or.inl rfl)) ?_ ?_
  · rintro av g ⟨rfl, -⟩
    exact Nat.le_of_ble_eq_true rfl
  · rintro X hX hGX hrm av g ⟨rfl, hlt, hnt, hpl⟩ hR hT -
    refine bX9_least_0 hX _ _ _ _ _ ?_
    refine bX9_least_3 hX hrm hGX hOk hT (p, 100) (by decide) _ _ _ _ _ ⟨Nat.le_of_ble_eq_true rfl, Nat.le_of_ble_eq_true rfl, Nat.le_of_ble_eq_true rfl, Nat.le_of_ble_eq_true rfl, rfl, ?_, ?_⟩
    · rintro E g2 ⟨rfl, rfl, hb⟩
      exact ⟨Nat.le_of_ble_eq_true rfl, Nat.le_of_ble_eq_true rfl, rfl, Or.inl ⟨rfl, hb⟩⟩
    rintro v g2 ⟨rfl, rfl, h1⟩ -
    refine bX9_least_11 hX hR hrm hGX hOk hT (x, 0, 100000) (by decide) _ _ _ _ _ ⟨Nat.le_of_ble_eq_true rfl, Nat.le_of_ble_eq_true rfl, Nat.le_of_ble_eq_true rfl, Nat.le_of_ble_eq_true rfl, rfl, ?_, ?_⟩
    · rintro E g2 ⟨rfl, rfl, hb⟩
      exact ⟨Nat.le_of_ble_eq_true rfl, Nat.le_of_ble_eq_true rfl, rfl, Or.inr ⟨rfl, h1, hb⟩⟩
    rintro v g2 ⟨rfl, rfl, h2⟩ -
    obtain ⟨k, hk, rfl⟩ := bI_nI (b := 100) (by omega) h1
    obtain ⟨⟨o, hpa, ho⟩, hps⟩ := id hpl
    obtain ⟨r, hgk, hch⟩ := hps k hk
    have hck : (nI k).toNatClampNeg = k := ni_cl (by omega)
    refine ⟨_, _, _, hlt, rfl, _, _, _, hnt.1, rfl, _, _, _, hpa, ni_in (by omega) (by omega), ?_⟩
    rw [hck, ho k hk]
    have hu := hg_up (S := fun b => b = [20, k]) (v := some ([20, k], .inr (7, [.inr (.inr r), .inl (N k), .inl x.toInt32]))) hg_rf hgk rfl
    refine ⟨_, _, _, hgk, rfl, _, _, hgk, Nat.le_of_ble_eq_true rfl, Nat.le_of_ble_eq_true rfl, Nat.le_of_ble_eq_true rfl, k, hk, rfl, h2, rfl, hu, ⟨o, hu _ _ _ hpa (by simp), ho⟩, fun p hp => ?_⟩
    by_cases hpk : p = k
    · subst hpk
      refine ⟨r, ?_, pl_mono2 hu _ r (fun q _ e => by simp at e) hch⟩
      rw [pk_us]
      exact up_at
    · obtain ⟨r', hg', hch'⟩ := hps p hp
      refine ⟨r', ?_, pl_mono2 hu _ r' (fun q _ e => by simp at e) hch'⟩
      rw [pk_un hpk]
      exact hu _ _ _ hg' (by simp; exact hpk)
set_option maxRecDepth 20000 in
theorem bX9_sign_0 {X : pz_C} (hX : pz_X X cX9_sign 2 RX9) : ∀ lv st g c s, (zo_il 1 1 (zo_i2l (zo_lc 3 (32) (zo_lc 3 (126) (pz_Z X 2))))) 0 lv st g c s → pz_Z X 2 0 lv st g c s := (zs_iload_n hX dX9_sign_0 rfl (zs_i2l hX dX9_sign_1 (zs_ldc2 hX dX9_sign_2 mw_83a095f2 (zs_ldc2 hX dX9_sign_5 mw_b972d4ba (fun _ _ _ _ _ h => h)))))
set_option maxRecDepth 20000 in
theorem bX9_sign_8 {X : pz_C} {G : pz_Gx} {sa md mi : Nat} {PX : String → pz_H → Prop} {rm : Room} (hX : pz_X X cX9_sign 2 RX9) (hrm : pz_rm X = rm) (hGX : pz_GX X G) (hOk : pz_O3 G sa md mi) (hT : pz_Te X 2 rm PX) (gh : gt_X9_requireRange) (hr_X9_requireRange : rm_X9_requireRange.frames + 1 ≤ rm.frames ∧ 8 + (6 + 11) + rm_X9_requireRange.locals ≤ rm.locals) : ∀ lv st g c s, (zo_csX rm 3 3 rm_X9_requireRange.cells rm_X9_requireRange.slots (pr_X9_requireRange gh) (po_X9_requireRange gh) (px_X9_requireRange gh) (zo_te rm PX) (zo_kv (zo_al 1 0 (zo_get 11 3 (zo_get 8 1 (zo_ic 3 (500) (zo_ic_ge 28 (pz_Z X 2)))))))) 8 lv st g c s → pz_Z X 2 8 lv st g c s := by
  subst hrm
  exact (zs_csSX hX hGX (ct_X9_requireRange hOk gh) mw_6378151b mw_14fb916b mw_8bb91264 mw_a40b3fa2 (by decide +kernel) hr_X9_requireRange dX9_sign_8 (zs_te hT) (zs_kv (zs_aload_n hX dX9_sign_11 rfl (zs_get hX (C := RX9) (T := TX9) (N := 7) rfl in_X9 (by decide) mw_303e20cf dX9_sign_12 (zs_get hX (C := RX6) (T := TX6) (N := 6) rfl in_X6 (by decide) mw_c9588d3d dX9_sign_15 (zs_sipush hX dX9_sign_18 (by decide) (zs_ic_ge hX dX9_sign_21 (by decide) (fun _ _ _ _ _ _ h => h))))))))
set_option maxRecDepth 20000 in
theorem bX9_sign_24 {X : pz_C} (hX : pz_X X cX9_sign 2 RX9) : ∀ lv st g c s, (zo_ic 1 (1) (zo_goto 29 (pz_Z X 2))) 24 lv st g c s → pz_Z X 2 24 lv st g c s := (zs_iconst hX dX9_sign_24 (by decide) (zs_goto hX dX9_sign_25 (by decide) (fun _ _ _ _ _ _ h => h)))
set_option maxRecDepth 20000 in
theorem bX9_sign_28 {X : pz_C} (hX : pz_X X cX9_sign 2 RX9) : ∀ lv st g c s, (zo_ic 1 (0) (pz_Z X 2)) 28 lv st g c s → pz_Z X 2 28 lv st g c s := (zs_iconst hX dX9_sign_28 (by decide) (fun _ _ _ _ _ h => h))
set_option maxRecDepth 20000 in
theorem bX9_sign_29 {X : pz_C} {G : pz_Gx} {sa md mi : Nat} {PX : String → pz_H → Prop} {rm : Room} (hX : pz_X X cX9_sign 2 RX9) (hrm : pz_rm X = rm) (hGX : pz_GX X G) (hOk : pz_O3 G sa md mi) (hT : pz_Te X 2 rm PX) (gh : gt_X9_requireRoom) (hr_X9_requireRoom : rm_X9_requireRoom.frames + 1 ≤ rm.frames ∧ 8 + (1 + 11) + rm_X9_requireRoom.locals ≤ rm.locals) : ∀ lv st g c s, (zo_csX rm 1 3 rm_X9_requireRoom.cells rm_X9_requireRoom.slots (pr_X9_requireRoom gh) (po_X9_requireRoom gh) (px_X9_requireRoom gh) (zo_te rm PX) (zo_kv (zo_al 1 0 (zo_get 11 3 (zo_il 1 1 (zo_i2c (pz_Z X 2))))))) 29 lv st g c s → pz_Z X 2 29 lv st g c s := by
  subst hrm
  exact (zs_csSX hX hGX (ct_X9_requireRoom hOk gh) mw_beef0b16 mw_3412a6f2 mw_8bb91264 mw_389c92d4 (by decide +kernel) hr_X9_requireRoom dX9_sign_29 (zs_te hT) (zs_kv (zs_aload_n hX dX9_sign_32 rfl (zs_get hX (C := RX9) (T := TX9) (N := 7) rfl in_X9 (by decide) mw_303e20cf dX9_sign_33 (zs_iload_n hX dX9_sign_36 rfl (zs_i2c hX dX9_sign_37 (fun _ _ _ _ _ h => h)))))))
set_option maxRecDepth 20000 in
theorem bX9_sign_38 {X : pz_C} {G : pz_Gx} {sa md mi : Nat} {rm : Room} {E : Option pz_V → pz_H → Prop} (hX : pz_X X cX9_sign 2 RX9) (hR : pz_Rt X cX9_sign 2 none rm E) (hrm : pz_rm X = rm) (hGX : pz_GX X G) (hOk : pz_O3 G sa md mi) (gh : gt_X6_add) (hr_X6_add : rm_X6_add.frames + 1 ≤ rm.frames ∧ 8 + (2 + 11) + rm_X6_add.locals ≤ rm.locals) : ∀ lv st g c s, (zo_cV rm 8 1 3 rm_X6_add.cells rm_X6_add.slots (pr_X6_add gh) (po_X6_add gh) (zo_kv (zo_rv rm E))) 38 lv st g c s → pz_Z X 2 38 lv st g c s := by
  subst hrm
  exact (zs_csV hX hGX (C := RX6) (T := TX6) (N := 6) rfl (ct_X6_add hOk.1.1 gh) mw_9e4f5d43 mw_d63fc09a mw_3edc55ce mw_59af5b5a mw_8a2ca6ac (by decide +kernel) hr_X6_add dX9_sign_38 (zs_kv (zs_rv hR dX9_sign_41)))
def rm_X9_sign : Room := { frames := 7, cells := 2, slots := 12, locals := 107 }
abbrev gt_X9_sign : Type := (Nat × Int32) × (Nat × Nat × Nat × Nat) × (Nat × Nat × Nat) × (Nat × Nat × Nat × Nat) × (Int32 × Int32) × (Nat → Int32)
def pr_X9_sign : gt_X9_sign → List pz_V → pz_H → Prop := fun ((h, x), (nt, wy, lv, tx), (ne, nz, nw), (cm, sg, len, at'), (fa, ro), cf) av g => av = [.inr (.inr (some (h))), .inl (x)] ∧ len ≤ 500 ∧ ltS g h nt wy lv tx ne nz nw ∧ txS g tx cm sg len at' fa ro cf
def po_X9_sign : gt_X9_sign → List pz_V → pz_H → Option pz_V → pz_H → Prop := fun ((h, x), (nt, wy, lv, tx), (ne, nz, nw), (cm, sg, len, at'), (fa, ro), cf) _ g v g' => v = none ∧ ¬ bdR x.toInt64 32 126 ∧ len < 500 ∧ hg (fun b => b = [4] ∨ b = [16]) g g' ∧ txS g' tx cm sg (len + 1) at' fa ro (upd cf len x)
def px_X9_sign : gt_X9_sign → List pz_V → pz_H → String → pz_H → Prop := fun ((h, x), _, _, (cm, sg, len, at'), _) _ g E g' => g' = g ∧ ((E = nIAE ∧ bdR x.toInt64 32 126) ∨ (E = nUOE ∧ ¬ bdR x.toInt64 32 126 ∧ len = 500))
theorem sg_c : ∀ q, q < 127 → vp_nar .char ((nI q).toUInt32 % 65536).toInt32 = nI q := by decide +kernel
set_option maxRecDepth 20000 in
theorem ct_X9_sign {G : pz_Gx} {sa md mi : Nat} (hOk : pz_O3 G sa md mi) (gh : gt_X9_sign) : pz_MX G yX9_sign cX9_sign 2 none rm_X9_sign (pr_X9_sign gh) (po_X9_sign gh) (px_X9_sign gh) := by
  obtain ⟨⟨h, x⟩, ⟨nt, wy, lv, tx⟩, ⟨ne, nz, nw⟩, ⟨cm, sg, len, at'⟩, ⟨fa, ro⟩, cf⟩ := gh
  refine pz_ofZX (by decide) hOk.1.1.1 (Or.inl rfl) ?_ ?_
  · rintro av g ⟨rfl, -⟩
    exact Nat.le_of_ble_eq_true rfl
  · rintro X hX hGX hrm av g ⟨rfl, hlen, hlt, hts⟩ hR hT -
    refine bX9_sign_0 hX _ _ _ _ _ ?_
    refine bX9_sign_8 hX hrm hGX hOk hT (x.toInt64, 32, 126) (by decide) _ _ _ _ _ ⟨Nat.le_of_ble_eq_true rfl, Nat.le_of_ble_eq_true rfl, Nat.le_of_ble_eq_true rfl, Nat.le_of_ble_eq_true rfl, rfl, ?_, ?_⟩
    · rintro E g2 ⟨rfl, rfl, hb⟩
      exact ⟨Nat.le_of_ble_eq_true rfl, Nat.le_of_ble_eq_true rfl, rfl, Or.inl ⟨rfl, hb⟩⟩
    rintro v g2 ⟨rfl, rfl, h1⟩ -
    have room : ∀ y : Int32, (y = 0 ∨ y = 1) → (y = 0 ↔ len = 500) → pz_Z X 2 29 [(0, .inr (.inr (some (h)))), (1, .inl (x))] [.inl (y)] g2 1 6 := by
      intro y hy he
      refine bX9_sign_29 hX hrm hGX hOk hT y (by decide) _ _ _ _ _ ⟨Nat.le_of_ble_eq_true rfl, Nat.le_of_ble_eq_true rfl, Nat.le_of_ble_eq_true rfl, Nat.le_of_ble_eq_true rfl, rfl, ?_, ?_⟩
      · rintro E g3 ⟨rfl, rfl, hb⟩
        exact ⟨Nat.le_of_ble_eq_true rfl, Nat.le_of_ble_eq_true rfl, rfl, Or.inr ⟨rfl, h1, he.mp hb⟩⟩
      rintro v g3 ⟨rfl, rfl, h2⟩ -
      have hl : len < 500 := Nat.lt_of_le_of_ne hlen (fun e => h2 (he.mpr e))
      refine ⟨_, _, _, hlt, rfl, ?_⟩
      refine bX9_sign_38 hX hR hrm hGX hOk ((tx, _), (cm, sg, len, at'), (fa, ro), cf) (by decide) _ _ _ _ _ ⟨Nat.le_of_ble_eq_true rfl, ⟨tx, [.inl ((x.toUInt32 % 65536).toInt32)], [4], _, rfl, hts.1⟩, Nat.le_of_ble_eq_true rfl, Nat.le_of_ble_eq_true rfl, Nat.le_of_ble_eq_true rfl, ⟨rfl, hl, hts⟩, ?_⟩
      rintro v g4 ⟨rfl, h3, h4⟩ -
      have hx : ∃ q, q < 127 ∧ x = nI q := by
        have hb : ¬ (x.toInt64 < 32 ∨ 126 < x.toInt64) := h1
        rw [i6_lt, i6_lt, Int32.toInt_toInt64, show (32 : Int64).toInt = 32 from rfl, show (126 : Int64).toInt = 126 from rfl] at hb
        obtain ⟨q, hq, e⟩ := nI_of (x := x) (by rw [i3_lt, show (0 : Int32).toInt = 0 from rfl]; omega)
        refine ⟨q, ?_, e⟩
        rw [e, nI_toInt hq] at hb
        omega
      obtain ⟨q, hq, rfl⟩ := hx
      rw [sg_c q hq] at h4
      exact ⟨Nat.le_of_ble_eq_true rfl, Nat.le_of_ble_eq_true rfl, rfl, h1, hl, h3, h4⟩
    refine ⟨_, _, _, hlt, rfl, _, _, _, hts.1, rfl, fun q => ?_, fun q => ?_⟩
    · refine bX9_sign_28 hX _ _ _ _ _ (room 0 (Or.inl rfl) ⟨fun _ => ?_, fun _ => rfl⟩)
      have := (ni_le (a := 500) (by omega) (by omega)).mp q
      omega
    · refine bX9_sign_24 hX _ _ _ _ _ (room 1 (Or.inr rfl) ⟨fun e => absurd e (by decide), fun e => absurd ?_ q⟩)
      rw [e]; decide
