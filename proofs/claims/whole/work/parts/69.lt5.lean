/-! LineTimes: zone -/
def zU (Z : Nat → List (Int32 × Int32)) (k : Nat) (l : List (Int32 × Int32)) : Nat → List (Int32 × Int32) := fun i => if i = k then l else Z i
theorem plS_up {g g' : pz_H} {pa k : Nat} {fp : Nat → Nat} {Z : Nat → List (Int32 × Int32)} {N C : Nat → Int32} {l : List (Int32 × Int32)} {n : Int32} (hh : hg (fun b => b = [0] ∨ b = [20, k] ∨ ∃ y, b = [21, k, y]) g g') (hpl : plS g pa fp Z N C) (hk : ∃ r, g' (fp k) = some ([20, k], .inr (7, [.inr (.inr r), .inl n, .inl (C k)])) ∧ pl_ch g' k r l) : plS g' pa fp (zU Z k l) (upd N k n) C := by
  obtain ⟨⟨o, hpa, ho⟩, hps⟩ := hpl
  refine ⟨⟨o, hh _ _ _ hpa (by simp), ho⟩, fun p hp => ?_⟩
  by_cases hpk : p = k
  · subst hpk
    obtain ⟨r, h1, h2⟩ := hk
    refine ⟨r, by rw [pk_us]; exact h1, ?_⟩
    unfold zU
    rw [if_pos rfl]; exact h2
  · obtain ⟨r, h1, h2⟩ := hps p hp
    refine ⟨r, ?_, ?_⟩
    · rw [pk_un hpk]
      exact hh _ _ _ h1 (by simp; exact hpk)
    · unfold zU
      rw [if_neg hpk]
      exact pl_mono2 hh _ r (fun q _ e => by simp at e; exact hpk e) h2
set_option maxRecDepth 20000 in
theorem bX9_zone_0 {X : pz_C} (hX : pz_X X cX9_zone 7 RX9) : ∀ lv st g c s, (zo_il 1 1 (zo_ic 2 (100) (pz_Z X 7))) 0 lv st g c s → pz_Z X 7 0 lv st g c s := (zs_iload_n hX dX9_zone_0 rfl (zs_bipush hX dX9_zone_1 (by decide) (fun _ _ _ _ _ h => h)))
set_option maxRecDepth 20000 in
theorem bX9_zone_3 {X : pz_C} {G : pz_Gx} {sa md mi : Nat} {PX : String → pz_H → Prop} {rm : Room} (hX : pz_X X cX9_zone 7 RX9) (hrm : pz_rm X = rm) (hGX : pz_GX X G) (hOk : pz_O3 G sa md mi) (hT : pz_Te X 7 rm PX) (gh : gt_X9_requireIndex) (hr_X9_requireIndex : rm_X9_requireIndex.frames + 1 ≤ rm.frames ∧ 8 + (2 + 11) + rm_X9_requireIndex.locals ≤ rm.locals) : ∀ lv st g c s, (zo_csX rm 2 3 rm_X9_requireIndex.cells rm_X9_requireIndex.slots (pr_X9_requireIndex gh) (po_X9_requireIndex gh) (px_X9_requireIndex gh) (zo_te rm PX) (zo_kv (zo_ll 1 2 (zo_lc 1 (0) (zo_lc 3 (2000000000) (pz_Z X 7)))))) 3 lv st g c s → pz_Z X 7 3 lv st g c s := by
  subst hrm
  exact (zs_csSX hX hGX (ct_X9_requireIndex hOk gh) mw_4ee6c08a mw_6fa824eb mw_8bb91264 mw_b75cb11b (by decide +kernel) hr_X9_requireIndex dX9_zone_3 (zs_te hT) (zs_kv (zs_lload_n hX dX9_zone_6 rfl (zs_lconst hX dX9_zone_7 (by decide) (zs_ldc2 hX dX9_zone_8 mw_2fe7f467 (fun _ _ _ _ _ h => h))))))
set_option maxRecDepth 20000 in
theorem bX9_zone_11 {X : pz_C} {G : pz_Gx} {sa md mi : Nat} {PX : String → pz_H → Prop} {rm : Room} (hX : pz_X X cX9_zone 7 RX9) (hrm : pz_rm X = rm) (hGX : pz_GX X G) (hOk : pz_O3 G sa md mi) (hT : pz_Te X 7 rm PX) (gh : gt_X9_requireRange) (hr_X9_requireRange : rm_X9_requireRange.frames + 1 ≤ rm.frames ∧ 8 + (6 + 11) + rm_X9_requireRange.locals ≤ rm.locals) : ∀ lv st g c s, (zo_csX rm 3 3 rm_X9_requireRange.cells rm_X9_requireRange.slots (pr_X9_requireRange gh) (po_X9_requireRange gh) (px_X9_requireRange gh) (zo_te rm PX) (zo_kv (zo_il 2 4 (zo_i2l (zo_lc 3 (-900) (zo_lc 3 (900) (pz_Z X 7))))))) 11 lv st g c s → pz_Z X 7 11 lv st g c s := by
  subst hrm
  exact (zs_csSX hX hGX (ct_X9_requireRange hOk gh) mw_6378151b mw_14fb916b mw_8bb91264 mw_a40b3fa2 (by decide +kernel) hr_X9_requireRange dX9_zone_11 (zs_te hT) (zs_kv (zs_iload hX dX9_zone_14 (zs_i2l hX dX9_zone_16 (zs_ldc2 hX dX9_zone_17 mw_831a1db7 (zs_ldc2 hX dX9_zone_20 mw_72908291 (fun _ _ _ _ _ h => h)))))))
set_option maxRecDepth 20000 in
theorem bX9_zone_23 {X : pz_C} {G : pz_Gx} {sa md mi : Nat} {PX : String → pz_H → Prop} {rm : Room} (hX : pz_X X cX9_zone 7 RX9) (hrm : pz_rm X = rm) (hGX : pz_GX X G) (hOk : pz_O3 G sa md mi) (hT : pz_Te X 7 rm PX) (gh : gt_X9_requireRange) (hr_X9_requireRange : rm_X9_requireRange.frames + 1 ≤ rm.frames ∧ 8 + (6 + 11) + rm_X9_requireRange.locals ≤ rm.locals) : ∀ lv st g c s, (zo_csX rm 3 3 rm_X9_requireRange.cells rm_X9_requireRange.slots (pr_X9_requireRange gh) (po_X9_requireRange gh) (px_X9_requireRange gh) (zo_te rm PX) (zo_kv (zo_al 1 0 (zo_get 11 0 (zo_get 6 1 (zo_il 1 1 (zo_aald 4 (zo_as 2 5 (zo_al 2 5 (zo_ll 1 2 (zo_l2i (pz_Z X 7)))))))))))) 23 lv st g c s → pz_Z X 7 23 lv st g c s := by
  subst hrm
  exact (zs_csSX hX hGX (ct_X9_requireRange hOk gh) mw_6378151b mw_14fb916b mw_8bb91264 mw_a40b3fa2 (by decide +kernel) hr_X9_requireRange dX9_zone_23 (zs_te hT) (zs_kv (zs_aload_n hX dX9_zone_26 rfl (zs_get hX (C := RX9) (T := TX9) (N := 7) rfl in_X9 (by decide) mw_a7a80db5 dX9_zone_27 (zs_get hX (C := RX4) (T := TX4) (N := 5) rfl in_X4 (by decide) mw_f913a6e7 dX9_zone_30 (zs_iload_n hX dX9_zone_33 rfl (zs_aald hX (ty := (.object "LineTimes$Place")) (fun _ => rfl) rfl dX9_zone_34 (zs_astore hX dX9_zone_35 (by decide) (zs_aload hX dX9_zone_37 (zs_lload_n hX dX9_zone_39 rfl (zs_l2i hX dX9_zone_40 (fun _ _ _ _ _ h => h))))))))))))
set_option maxRecDepth 20000 in
theorem bX9_zone_41 {X : pz_C} {G : pz_Gx} {sa md mi : Nat} {rm : Room} (hX : pz_X X cX9_zone 7 RX9) (hrm : pz_rm X = rm) (hGX : pz_GX X G) (hOk : pz_O3 G sa md mi) (gh : gt_X5_rowFrom) (hr_X5_rowFrom : rm_X5_rowFrom.frames + 1 ≤ rm.frames ∧ 8 + (3 + 11) + rm_X5_rowFrom.locals ≤ rm.locals) : ∀ lv st g c s, (zo_cV rm 7 1 3 rm_X5_rowFrom.cells rm_X5_rowFrom.slots (pr_X5_rowFrom gh) (po_X5_rowFrom gh) (zo_kr (zo_as 2 6 (zo_al 2 6 (zo_ifnull 64 (pz_Z X 7)))))) 41 lv st g c s → pz_Z X 7 41 lv st g c s := by
  subst hrm
  exact (zs_csV hX hGX (C := RX5) (T := TX5) (N := 3) rfl (ct_X5_rowFrom hOk.1.1 gh) mw_1589e582 mw_c0a94c36 mw_bf01daad mw_fae7169a mw_129a8280 (by decide +kernel) hr_X5_rowFrom dX9_zone_41 (zs_kr (by first | exact Or.inl ⟨_, rfl⟩ | exact Or.inr ⟨_, rfl⟩) (zs_astore hX dX9_zone_44 (by decide) (zs_aload hX dX9_zone_46 (zs_ifnull hX dX9_zone_48 (by decide) (fun _ _ _ _ _ _ h => h))))))
set_option maxRecDepth 20000 in
theorem bX9_zone_51 {X : pz_C} {rm : Room} {E : Option pz_V → pz_H → Prop} (hX : pz_X X cX9_zone 7 RX9) (hR : pz_Rt X cX9_zone 7 (some .int) rm E) : ∀ lv st g c s, (zo_al 2 6 (zo_il 2 4 (zo_puti 10 1 (zo_al 2 5 (zo_get 7 1 (zo_ri rm E)))))) 51 lv st g c s → pz_Z X 7 51 lv st g c s := (zs_aload hX dX9_zone_51 (zs_iload hX dX9_zone_53 (zs_puti hX (C := RX8) (T := TX8) (N := 3) rfl in_X8 (by decide) mw_f1739f71 tyX8 tyX8_ok nmX8 (by decide +kernel) rfl dX9_zone_55 (zs_aload hX dX9_zone_58 (zs_get hX (C := RX5) (T := TX5) (N := 3) rfl in_X5 (by decide) mw_6829cf52 dX9_zone_60 (zs_ri hR dX9_zone_63))))))
set_option maxRecDepth 20000 in
theorem bX9_zone_64 {X : pz_C} (hX : pz_X X cX9_zone 7 RX9) : ∀ lv st g c s, (zo_al 1 0 (zo_get 11 5 (zo_ic 2 (100) (zo_ic_ge 77 (pz_Z X 7))))) 64 lv st g c s → pz_Z X 7 64 lv st g c s := (zs_aload_n hX dX9_zone_64 rfl (zs_get hX (C := RX9) (T := TX9) (N := 7) rfl in_X9 (by decide) mw_4d6d3af6 dX9_zone_65 (zs_bipush hX dX9_zone_68 (by decide) (zs_ic_ge hX dX9_zone_70 (by decide) (fun _ _ _ _ _ _ h => h)))))
set_option maxRecDepth 20000 in
theorem bX9_zone_73 {X : pz_C} (hX : pz_X X cX9_zone 7 RX9) : ∀ lv st g c s, (zo_ic 1 (1) (zo_goto 78 (pz_Z X 7))) 73 lv st g c s → pz_Z X 7 73 lv st g c s := (zs_iconst hX dX9_zone_73 (by decide) (zs_goto hX dX9_zone_74 (by decide) (fun _ _ _ _ _ _ h => h)))
set_option maxRecDepth 20000 in
theorem bX9_zone_77 {X : pz_C} (hX : pz_X X cX9_zone 7 RX9) : ∀ lv st g c s, (zo_ic 1 (0) (pz_Z X 7)) 77 lv st g c s → pz_Z X 7 77 lv st g c s := (zs_iconst hX dX9_zone_77 (by decide) (fun _ _ _ _ _ h => h))
set_option maxRecDepth 20000 in
theorem bX9_zone_78 {X : pz_C} {G : pz_Gx} {sa md mi : Nat} {PX : String → pz_H → Prop} {rm : Room} (hX : pz_X X cX9_zone 7 RX9) (hrm : pz_rm X = rm) (hGX : pz_GX X G) (hOk : pz_O3 G sa md mi) (hT : pz_Te X 7 rm PX) (gh : gt_X9_requireRoom) (hr_X9_requireRoom : rm_X9_requireRoom.frames + 1 ≤ rm.frames ∧ 8 + (1 + 11) + rm_X9_requireRoom.locals ≤ rm.locals) : ∀ lv st g c s, (zo_csX rm 1 3 rm_X9_requireRoom.cells rm_X9_requireRoom.slots (pr_X9_requireRoom gh) (po_X9_requireRoom gh) (px_X9_requireRoom gh) (zo_te rm PX) (zo_kv (zo_al 2 5 (zo_ll 1 2 (zo_l2i (zo_il 2 4 (pz_Z X 7))))))) 78 lv st g c s → pz_Z X 7 78 lv st g c s := by
  subst hrm
  exact (zs_csSX hX hGX (ct_X9_requireRoom hOk gh) mw_beef0b16 mw_3412a6f2 mw_8bb91264 mw_389c92d4 (by decide +kernel) hr_X9_requireRoom dX9_zone_78 (zs_te hT) (zs_kv (zs_aload hX dX9_zone_81 (zs_lload_n hX dX9_zone_83 rfl (zs_l2i hX dX9_zone_84 (zs_iload hX dX9_zone_85 (fun _ _ _ _ _ h => h)))))))
set_option maxRecDepth 20000 in
theorem bX9_zone_87 {X : pz_C} {G : pz_Gx} {sa md mi : Nat} {rm : Room} {E : Option pz_V → pz_H → Prop} (hX : pz_X X cX9_zone 7 RX9) (hR : pz_Rt X cX9_zone 7 (some .int) rm E) (hrm : pz_rm X = rm) (hGX : pz_GX X G) (hOk : pz_O3 G sa md mi) (gh : gt_X5_addRow) (hr_X5_addRow : rm_X5_addRow.frames + 1 ≤ rm.frames ∧ 8 + (5 + 11) + rm_X5_addRow.locals ≤ rm.locals) : ∀ lv st g c s, (zo_cV rm 7 2 3 rm_X5_addRow.cells rm_X5_addRow.slots (pr_X5_addRow gh) (po_X5_addRow gh) (zo_kv (zo_al 1 0 (zo_dup (zo_get 11 5 (zo_ic 1 (1) (zo_iadd (zo_puti 11 5 (zo_al 2 5 (zo_get 7 1 (zo_ri rm E))))))))))) 87 lv st g c s → pz_Z X 7 87 lv st g c s := by
  subst hrm
  exact (zs_csV hX hGX (C := RX5) (T := TX5) (N := 3) rfl (ct_X5_addRow hOk.1.1 gh) mw_2ae45650 mw_f55df681 mw_79df23e9 mw_fae7169a mw_19a83628 (by decide +kernel) hr_X5_addRow dX9_zone_87 (zs_kv (zs_aload_n hX dX9_zone_90 rfl (zs_dup hX dX9_zone_91 (zs_get hX (C := RX9) (T := TX9) (N := 7) rfl in_X9 (by decide) mw_4d6d3af6 dX9_zone_92 (zs_iconst hX dX9_zone_95 (by decide) (zs_iadd hX dX9_zone_96 (zs_puti hX (C := RX9) (T := TX9) (N := 7) rfl in_X9 (by decide) mw_4d6d3af6 tyX9 tyX9_ok nmX9 (by decide +kernel) rfl dX9_zone_97 (zs_aload hX dX9_zone_100 (zs_get hX (C := RX5) (T := TX5) (N := 3) rfl in_X5 (by decide) mw_6829cf52 dX9_zone_102 (zs_ri hR dX9_zone_105)))))))))))
def rm_X9_zone : Room := { frames := 7, cells := 5, slots := 27, locals := 107 }
abbrev gt_X9_zone : Type := (Nat × Int32 × Int64 × Int32) × (Nat × Nat × Nat × Nat) × (Nat × Nat × Nat) × (Nat × Nat × Nat × Nat × Int32 × (Nat → Nat)) × ((Nat → Nat) × (Nat → List (Int32 × Int32)) × (Nat → Int32) × (Nat → Int32))
def pr_X9_zone : gt_X9_zone → List pz_V → pz_H → Prop := fun ((h, p, f, x), (nt, wy, lv, tx), (ne, nz, nw), (la, pa, na, so, fd, Wa), (fp, Z, N, C)) av g => av = [.inr (.inr (some (h))), .inl (p), .inr (.inl (f)), .inl (x)] ∧ nz ≤ 100 ∧ ltS g h nt wy lv tx ne nz nw ∧ ntS g nt la pa na so fd Wa ∧ plS g pa fp Z N C ∧ ∀ p, p < 100 → zDs (Z p) ∧ ∀ q ∈ Z p, 0 ≤ q.1.toInt
def zb2 (f : Int64) (x : Int32) : Prop := bdR f 0 2000000000 ∨ bdR x.toInt64 (-900) 900
def po_X9_zone : gt_X9_zone → List pz_V → pz_H → Option pz_V → pz_H → Prop := fun ((h, p, f, x), (nt, wy, lv, tx), (ne, nz, nw), (la, pa, na, so, fd, Wa), (fp, Z, N, C)) _ g v g' => ¬ zb2 f x ∧ ∃ k F, k < 100 ∧ p = nI k ∧ F ≤ 2000000000 ∧ f = lN F ∧ hg (fun b => b = [0] ∨ b = [20, k] ∨ ∃ y, b = [21, k, y]) g g' ∧ ((z_get (nI F) (Z k) = true ∧ v = some (.inl (N k)) ∧ ltS g' h nt wy lv tx ne nz nw ∧ plS g' pa fp (zU Z k (z_set (nI F) x (Z k))) (upd N k (N k)) C) ∨ (z_get (nI F) (Z k) = false ∧ nz < 100 ∧ v = some (.inl (N k + 1)) ∧ ltS g' h nt wy lv tx ne (nz + 1) nw ∧ plS g' pa fp (zU Z k (z_ins (nI F) x (Z k))) (upd N k (N k + 1)) C))
def px_X9_zone : gt_X9_zone → List pz_V → pz_H → String → pz_H → Prop := fun ((h, p, f, x), _, (ne, nz, nw), _, (fp, Z, N, C)) _ g E g' => g' = g ∧ ((E = nIOB ∧ bdI p 100) ∨ (E = nIAE ∧ ¬ bdI p 100 ∧ zb2 f x) ∨ (E = nUOE ∧ ¬ bdI p 100 ∧ ¬ zb2 f x ∧ nz = 100 ∧ ∃ k F, k < 100 ∧ p = nI k ∧ F ≤ 2000000000 ∧ f = lN F ∧ z_get (nI F) (Z k) = false))
set_option maxRecDepth 20000 in
set_option maxHeartbeats 4000000 in
theorem ct_X9_zone {G : pz_Gx} {sa md mi : Nat} (hOk : pz_O3 G sa md mi) (gh : gt_X9_zone) : pz_MX G yX9_zone cX9_zone 7 (some .int) rm_X9_zone (pr_X9_zone gh) (po_X9_zone gh) (px_X9_zone gh) := by
  obtain ⟨⟨h, p, f, x⟩, ⟨nt, wy, lv, tx⟩, ⟨ne, nz, nw⟩, ⟨la, pa, na, so, fd, Wa⟩, fp, Z, N, C⟩ := gh
  refine pz_ofZX (by decide) hOk.1.1.1 (Or.inr (Or.inl rfl)) ?_ ?_
  · rintro av g ⟨rfl, -⟩
    exact Nat.le_of_ble_eq_true rfl
  · rintro X hX hGX hrm av g ⟨rfl, hnz, hlt, hnt, hpl, hZ⟩ hR hT -
    refine bX9_zone_0 hX _ _ _ _ _ ?_
    refine bX9_zone_3 hX hrm hGX hOk hT (p, 100) (by decide) _ _ _ _ _ ⟨Nat.le_of_ble_eq_true rfl, Nat.le_of_ble_eq_true rfl, Nat.le_of_ble_eq_true rfl, Nat.le_of_ble_eq_true rfl, rfl, ?_, ?_⟩
    · rintro E g2 ⟨rfl, rfl, hb⟩
      exact ⟨Nat.le_of_ble_eq_true rfl, Nat.le_of_ble_eq_true rfl, rfl, Or.inl ⟨rfl, hb⟩⟩
    rintro v g2 ⟨rfl, rfl, h1⟩ -
    refine bX9_zone_11 hX hrm hGX hOk hT (f, 0, 2000000000) (by decide) _ _ _ _ _ ⟨Nat.le_of_ble_eq_true rfl, Nat.le_of_ble_eq_true rfl, Nat.le_of_ble_eq_true rfl, Nat.le_of_ble_eq_true rfl, rfl, ?_, ?_⟩
    · rintro E g2 ⟨rfl, rfl, hb⟩
      exact ⟨Nat.le_of_ble_eq_true rfl, Nat.le_of_ble_eq_true rfl, rfl, Or.inr (Or.inl ⟨rfl, h1, Or.inl hb⟩)⟩
    rintro v g2 ⟨rfl, rfl, h2⟩ -
    refine bX9_zone_23 hX hrm hGX hOk hT (x.toInt64, -900, 900) (by decide) _ _ _ _ _ ⟨Nat.le_of_ble_eq_true rfl, Nat.le_of_ble_eq_true rfl, Nat.le_of_ble_eq_true rfl, Nat.le_of_ble_eq_true rfl, rfl, ?_, ?_⟩
    · rintro E g2 ⟨rfl, rfl, hb⟩
      exact ⟨Nat.le_of_ble_eq_true rfl, Nat.le_of_ble_eq_true rfl, rfl, Or.inr (Or.inl ⟨rfl, h1, Or.inr hb⟩)⟩
    rintro v g2 ⟨rfl, rfl, h3⟩ -
    have hzb : ¬ zb2 f x := fun e => by rcases e with e | e; exact h2 e; exact h3 e
    obtain ⟨k, hk, rfl⟩ := bI_nI (b := 100) (by omega) h1
    obtain ⟨F, hF, rfl⟩ := bR_nI (b := 2000000000) (by omega) h2
    obtain ⟨⟨o, hpa, ho⟩, hps⟩ := id hpl
    obtain ⟨r, hgk, hch⟩ := hps k hk
    obtain ⟨hzd, hz0⟩ := hZ k hk
    have hck : (nI k).toNatClampNeg = k := ni_cl (by omega)
    have hFT : (nI F).toInt = F := nI_toInt (by omega)
    refine ⟨_, _, _, hlt, rfl, _, _, _, hnt.1, rfl, _, _, _, hpa, ni_in (by omega) (by omega), ?_⟩
    rw [hck, ho k hk]
    show pz_Z X 7 41 [(5, .inr (.inr (some (fp k)))), (0, .inr (.inr (some (h)))), (1, .inl (nI k)), (2, .inr (.inl (lN F))), (4, .inl (x))] [.inl ((lN F).toInt32), .inr (.inr (some (fp k)))] g2 3 18
    rw [lN_i]
    refine bX9_zone_41 hX hrm hGX hOk (fp k, nI F, k, Z k, r) (by decide) _ _ _ _ _ ⟨Nat.le_of_ble_eq_true rfl, ⟨fp k, [.inl (nI F)], [20, k], _, rfl, hgk⟩, Nat.le_of_ble_eq_true rfl, Nat.le_of_ble_eq_true rfl, Nat.le_of_ble_eq_true rfl, ⟨rfl, by omega, hzd, hz0, ⟨_, _, _, hgk⟩, hch⟩, ?_⟩
    rintro v g3 ⟨rfl, hc⟩ z hz
    rcases hc with ⟨hg0, rfl⟩ | ⟨hg1, a, m, e, rfl, ha, hrep⟩
    · cases hz
      refine ⟨fun _ => ?_, fun a q => by cases q⟩
      have room : ∀ y : Int32, (y = 0 ∨ y = 1) → (y = 0 ↔ nz = 100) → pz_Z X 7 78 [(6, .inr (.inr none)), (5, .inr (.inr (some (fp k)))), (0, .inr (.inr (some (h)))), (1, .inl (nI k)), (2, .inr (.inl (lN F))), (4, .inl (x))] [.inl (y)] g3 3 18 := by
        intro y hy he
        refine bX9_zone_78 hX hrm hGX hOk hT y (by decide) _ _ _ _ _ ⟨Nat.le_of_ble_eq_true rfl, Nat.le_of_ble_eq_true rfl, Nat.le_of_ble_eq_true rfl, Nat.le_of_ble_eq_true rfl, rfl, ?_, ?_⟩
        · rintro E g2 ⟨rfl, rfl, hb⟩
          exact ⟨Nat.le_of_ble_eq_true rfl, Nat.le_of_ble_eq_true rfl, rfl, Or.inr (Or.inr ⟨rfl, h1, hzb, he.mp hb, k, F, hk, rfl, hF, rfl, hg0⟩)⟩
        rintro v g4 ⟨rfl, rfl, h5⟩ -
        have hl : nz < 100 := Nat.lt_of_le_of_ne hnz (fun e => h5 (he.mpr e))
        show pz_Z X 7 87 [(6, .inr (.inr none)), (5, .inr (.inr (some (fp k)))), (0, .inr (.inr (some (h)))), (1, .inl (nI k)), (2, .inr (.inl (lN F))), (4, .inl (x))] [.inl (x), .inl ((lN F).toInt32), .inr (.inr (some (fp k)))] g4 4 24
        rw [lN_i]
        refine bX9_zone_87 hX hR hrm hGX hOk (fp k, nI F, x, k, Z k, r, N k, C k) (by decide) _ _ _ _ _ ⟨Nat.le_of_ble_eq_true rfl, ⟨fp k, [.inl (nI F), .inl (x)], [20, k], _, rfl, hgk⟩, Nat.le_of_ble_eq_true rfl, Nat.le_of_ble_eq_true rfl, Nat.le_of_ble_eq_true rfl, ⟨rfl, by omega, hzd, fun q hq => ⟨hz0 q hq, fun e => ?_⟩, hgk, hch⟩, ?_⟩
        · have := (z_getI (Z k)).mpr ⟨q, hq, e⟩
          rw [hg0] at this
          cases this
        rintro v g5 ⟨rfl, h6, r', h7, h8⟩ -
        have hlt5 : ltS g5 h nt wy lv tx ne nz nw := h6 _ _ _ hlt (by simp)
        have hu := hg_up (S := fun b => b = [0] ∨ b = [20, k] ∨ ∃ y, b = [21, k, y]) (v := some ([0], .inr (11, [.inr (.inr (some (nt))), .inr (.inr (some (wy))), .inr (.inr (some (lv))), .inr (.inr (some (tx))), .inl (nI ne), .inl (nI nz + 1), .inl (nI nw)]))) (hg_mono h6 (fun b hb => Or.inr hb)) hlt5 (Or.inl rfl)
        have hu1 := hg_up (S := fun b => b = [0]) (v := some ([0], .inr (11, [.inr (.inr (some (nt))), .inr (.inr (some (wy))), .inr (.inr (some (lv))), .inr (.inr (some (tx))), .inl (nI ne), .inl (nI nz + 1), .inl (nI nw)]))) hg_rf hlt5 rfl
        have c7 := hu1 _ _ _ h7 (by simp)
        refine ⟨rfl, _, _, _, hlt5, rfl, _, _, hlt5, Nat.le_of_ble_eq_true rfl, _, _, _, c7, rfl, Nat.le_of_ble_eq_true rfl, Nat.le_of_ble_eq_true rfl, hzb, k, F, hk, rfl, hF, rfl, hu, Or.inr ⟨hg0, hl, rfl, ?_, plS_up hu hpl ⟨r', c7, pl_mono2 hu1 _ r' (fun q _ e => by simp at e) h8⟩⟩⟩
        unfold ltS
        rw [← nI_1]
        exact up_at
      refine bX9_zone_64 hX _ _ _ _ _ ⟨_, _, _, hlt, rfl, fun q => ?_, fun q => ?_⟩
      · refine bX9_zone_77 hX _ _ _ _ _ (room 0 (Or.inl rfl) ⟨fun _ => ?_, fun _ => rfl⟩)
        have := (ni_le (a := 100) (by omega) (by omega)).mp q
        omega
      · refine bX9_zone_73 hX _ _ _ _ _ (room 1 (Or.inr rfl) ⟨fun e => absurd e (by decide), fun e => absurd ?_ q⟩)
        rw [e]; decide
    · cases hz
      refine ⟨fun q => (by cases q), fun _ _ => ?_⟩
      have hu := hg_up (S := fun b => b = [0] ∨ b = [20, k] ∨ ∃ y, b = [21, k, y]) (v := some ([21, k, (nI F).toNatClampNeg], zr_c (nI F) x e)) hg_rf ha (Or.inr (Or.inr ⟨_, rfl⟩))
      have hu1 := hg_up (S := fun b => ∃ y, b = [21, k, y]) (v := some ([21, k, (nI F).toNatClampNeg], zr_c (nI F) x e)) hg_rf ha ⟨_, rfl⟩
      refine bX9_zone_51 hX hR _ _ _ _ _ ⟨_, _, ha, Nat.le_of_ble_eq_true rfl, _, _, _, hu1 _ _ _ hgk (by simp), rfl, Nat.le_of_ble_eq_true rfl, Nat.le_of_ble_eq_true rfl, hzb, k, F, hk, rfl, hF, rfl, hu, Or.inl ⟨hg1, rfl, hu1 _ _ _ hlt (by simp), plS_up hu hpl ⟨r, hu1 _ _ _ hgk (by simp), hrep x⟩⟩⟩
