/-! LineTimes$Text: clear, lastHasRoom, parseLine -/
def clK (x : lr_T) (D : cl_D) : Prop := x.2.2.1.1 = D.1 ∧ lr_n x = D.2.1 ∧ x.2.2.2.1 = D.2.2 ∧ x.2.2.2.2 = ([], []) ∧ x.2.2.1.2.2 = (none, none)
/-- the lines that came: their numbers lie between U0 and U -/
def cmS (g : pz_H) (cm sa m : Nat) (K : Nat → lr_T) (D : Nat → cl_D) (U0 U : Nat) : Prop := lsE g cm [7] [8] sa m (fun i => lr_h (K i)) ∧ (∀ i, i < m → lrOK g (K i) ∧ (∃ rn A B, lrT g (K i) rn A B) ∧ clK (K i) (D i) ∧ U0 ≤ lr_u (K i) ∧ lr_u (K i) < U) ∧ ∀ i j, i < m → j < m → lr_u (K i) = lr_u (K j) → i = j
/-- what parsing changes -/
def trSc (U0 : Nat) : List Nat → Prop := fun b => b = [4] ∨ b = [7] ∨ b = [8] ∨ ∃ u, U0 ≤ u ∧ (b = [30, u] ∨ b = [31, u] ∨ b = [32, u] ∨ b = [33, u])
theorem cmS_mono {g g' : pz_H} {S : List Nat → Prop} (hh : hg S g g') {cm sa m : Nat} {K : Nat → lr_T} {D : Nat → cl_D} {U0 U : Nat} (hS : ∀ b, S b → b = [4] ∨ ∃ u, U ≤ u ∧ b = [30, u]) (h : cmS g cm sa m K D U0 U) : cmS g' cm sa m K D U0 U := by
  obtain ⟨h1, h2, h3⟩ := h
  have n : ∀ b : List Nat, b ≠ [4] → (∀ u, U ≤ u → b ≠ [30, u]) → ¬ S b := fun b a1 a2 hb => by
    rcases hS b hb with e | ⟨u, hu, e⟩
    · exact a1 e
    · exact a2 u hu e
  refine ⟨lsE_mono hh ⟨n _ (by decide) (by simp), n _ (by decide) (by simp), n _ (by decide) (by simp)⟩ h1, fun i hi => ?_, h3⟩
  obtain ⟨a1, ⟨rn, A, B, a2⟩, a3, a4, a5⟩ := h2 i hi
  have hu : ∀ u, U ≤ u → ([30, lr_u (K i)] : List Nat) ≠ [30, u] := fun u hu e => by
    injection e with _ e; injection e with e; omega
  exact ⟨lrOK_mono hh (K i) ⟨⟨n _ (by simp) hu, n _ (by simp) (by simp), n _ (by simp) (by simp), n _ (by simp) (by simp), n _ (by simp) (by simp), n _ (by simp) (by simp)⟩, fun d => n _ (by simp) (by simp), n _ (by simp) (by simp)⟩ a1, ⟨rn, A, B, lrT_mono hh (K i) ⟨n _ (by simp) (by simp), fun i => n _ (by simp) (by simp), fun i => n _ (by simp) (by simp), n _ (by simp) (by simp)⟩ a2⟩, a3, a4, a5⟩
theorem cmS_U {g : pz_H} {cm sa m : Nat} {K : Nat → lr_T} {D : Nat → cl_D} {U0 U U' : Nat} (hU : U ≤ U') (h : cmS g cm sa m K D U0 U) : cmS g cm sa m K D U0 U' := by
  obtain ⟨h1, h2, h3⟩ := h
  exact ⟨h1, fun i hi => by
    obtain ⟨a1, a2, a3, a4, a5⟩ := h2 i hi
    exact ⟨a1, a2, a3, a4, by omega⟩, h3⟩
set_option maxRecDepth 20000 in
theorem bX6_clear_0 {X : pz_C} (hX : pz_X X cX6_clear 1 RX6) : ∀ lv st g c s, (zo_al 1 0 (zo_ic 1 (0) (zo_puti 8 1 (zo_al 1 0 (zo_get 8 0 (pz_Z X 1)))))) 0 lv st g c s → pz_Z X 1 0 lv st g c s := (zs_aload_n hX dX6_clear_0 rfl (zs_iconst hX dX6_clear_1 (by decide) (zs_puti hX (C := RX6) (T := TX6) (N := 6) rfl in_X6 (by decide) mw_526baddf tyX6 tyX6_ok nmX6 (by decide +kernel) rfl dX6_clear_2 (zs_aload_n hX dX6_clear_5 rfl (zs_get hX (C := RX6) (T := TX6) (N := 6) rfl in_X6 (by decide) mw_aa01b0a6 dX6_clear_6 (fun _ _ _ _ _ h => h))))))
set_option maxRecDepth 20000 in
theorem bX6_clear_9 {X : pz_C} {G : pz_Gx} {rm : Room} {E : Option pz_V → pz_H → Prop} (hX : pz_X X cX6_clear 1 RX6) (hR : pz_Rt X cX6_clear 1 none rm E) (hrm : pz_rm X = rm) (hGX : pz_GX X G) (hOk : pz_OK G) (gh : gt_Jx4a65c_clear_da8c8) (hr_Jx4a65c_clear_da8c8 : rm_Jx4a65c_clear_da8c8.frames + 1 ≤ rm.frames ∧ 8 + (4 + 11) + rm_Jx4a65c_clear_da8c8.locals ≤ rm.locals) : ∀ lv st g c s, (zo_cV rm 1 0 5 rm_Jx4a65c_clear_da8c8.cells rm_Jx4a65c_clear_da8c8.slots (pr_Jx4a65c_clear_da8c8 gh) (po_Jx4a65c_clear_da8c8 gh) (zo_kv (zo_rv rm E))) 9 lv st g c s → pz_Z X 1 9 lv st g c s := by
  subst hrm
  exact (zs_csF hX hGX (C := RJx4a65c) (T := TJx4a65c) (N := 3) rfl (ct_Jx4a65c_clear_da8c8 hOk gh) (hOk.2.2.2.2.1) mw_f2c4c734 mw_1556ba1d mw_4fe049fb mw_dd3bf01c mw_e2a6a5de (by decide +kernel) hr_Jx4a65c_clear_da8c8 dX6_clear_9 (zs_kv (zs_rv hR dX6_clear_14)))
def rm_X6_clear : Room := { frames := 1, cells := 0, slots := 0, locals := 23 }
abbrev gt_X6_clear : Type := Nat × (Nat × Nat × Nat × Nat) × (Int32 × Int32) × (Nat → Int32) × Nat × Nat × (Nat → Nat)
def pr_X6_clear : gt_X6_clear → List pz_V → pz_H → Prop := fun (tx, (cm, sg, len, at'), (fa, ro), cf, sa, m, hl) av g => av = [.inr (.inr (some (tx)))] ∧ txS g tx cm sg len at' fa ro cf ∧ lsE g cm [7] [8] sa m hl
def po_X6_clear : gt_X6_clear → List pz_V → pz_H → Option pz_V → pz_H → Prop := fun (tx, (cm, sg, len, at'), (fa, ro), cf, sa, m, hl) _ g v g' => v = none ∧ hg (fun b => b = [4] ∨ b = [7] ∨ b = [8]) g g' ∧ txS g' tx cm sg 0 at' fa ro cf ∧ lsE g' cm [7] [8] sa 0 hl
theorem ct_X6_clear {G : pz_Gx} (hOk : pz_OK G) (gh : gt_X6_clear) : pz_M G yX6_clear cX6_clear 1 none rm_X6_clear (pr_X6_clear gh) (po_X6_clear gh) := by
  obtain ⟨tx, ⟨cm, sg, len, at'⟩, ⟨fa, ro⟩, cf, sa, m, hl⟩ := gh
  refine pz_ofZ (by decide) hOk.1 (Or.inl rfl) ?_ ?_
  · rintro av g ⟨rfl, -⟩
    exact Nat.le_of_ble_eq_true rfl
  · rintro X hX hGX hrm - av g ⟨rfl, hts, hls⟩ hR
    refine bX6_clear_0 hX _ _ _ _ _ ⟨_, _, hts.1, Nat.le_of_ble_eq_true rfl, _, _, _, up_at, rfl, ?_⟩
    have hu := hg_up (S := fun b => b = [4]) (v := some ([4], .inr (8, [.inr (.inr (some (cm))), .inl 0, .inr (.inr (some (sg))), .inl (nI at'), .inl fa, .inl ro]))) hg_rf hts.1 rfl
    have hls1 := lsE_mono hu (by decide) hls
    obtain ⟨h41, mc, ed, cap, o, hla, hc⟩ := id hls1
    refine bX6_clear_9 hX hR hrm hGX hOk (cm, ([7], [8]), sa, m, hl) (by decide) _ _ _ _ _ ⟨Nat.le_of_ble_eq_true rfl, ⟨cm, [], [7], _, rfl, hla⟩, Nat.le_of_ble_eq_true rfl, Nat.le_of_ble_eq_true rfl, Nat.le_of_ble_eq_true rfl, ⟨rfl, by decide, by decide, hls1⟩, ?_⟩
    rintro v g2 ⟨rfl, h1, h2⟩ -
    refine ⟨Nat.le_of_ble_eq_true rfl, Nat.le_of_ble_eq_true rfl, rfl, hg_tr (hg_mono hu (fun b hb => Or.inl hb)) (hg_mono h1 (fun b hb => Or.inr hb)), ⟨h1 _ _ _ up_at (by decide), h1 _ _ _ (hu _ _ _ hts.2 (by decide)) (by decide)⟩, h2⟩
set_option maxRecDepth 20000 in
theorem bX6_lastHasRoom_0 {X : pz_C} (hX : pz_X X cX6_lastHasRoom 1 RX6) : ∀ lv st g c s, (zo_al 1 0 (zo_get 8 0 (pz_Z X 1))) 0 lv st g c s → pz_Z X 1 0 lv st g c s := (zs_aload_n hX dX6_lastHasRoom_0 rfl (zs_get hX (C := RX6) (T := TX6) (N := 6) rfl in_X6 (by decide) mw_aa01b0a6 dX6_lastHasRoom_1 (fun _ _ _ _ _ h => h)))
set_option maxRecDepth 20000 in
theorem bX6_lastHasRoom_4 {X : pz_C} {G : pz_Gx} {rm : Room} (hX : pz_X X cX6_lastHasRoom 1 RX6) (hrm : pz_rm X = rm) (hGX : pz_GX X G) (hOk : pz_OK G) (gh : gt_Jx4a65c_isEmpty_aae02) (hr_Jx4a65c_isEmpty_aae02 : rm_Jx4a65c_isEmpty_aae02.frames + 1 ≤ rm.frames ∧ 8 + (1 + 11) + rm_Jx4a65c_isEmpty_aae02.locals ≤ rm.locals) : ∀ lv st g c s, (zo_cV rm 1 0 5 rm_Jx4a65c_isEmpty_aae02.cells rm_Jx4a65c_isEmpty_aae02.slots (pr_Jx4a65c_isEmpty_aae02 gh) (po_Jx4a65c_isEmpty_aae02 gh) (zo_kz (zo_if_ne 45 (pz_Z X 1)))) 4 lv st g c s → pz_Z X 1 4 lv st g c s := by
  subst hrm
  exact (zs_csF hX hGX (C := RJx4a65c) (T := TJx4a65c) (N := 3) rfl (ct_Jx4a65c_isEmpty_aae02 hOk gh) (hOk.2.2.2.2.2) mw_7a4f2e88 mw_1d35e455 mw_d0d5e325 mw_dd3bf01c mw_94b4a852 (by decide +kernel) hr_Jx4a65c_isEmpty_aae02 dX6_lastHasRoom_4 (zs_kz (zs_if_ne hX dX6_lastHasRoom_9 (by decide) (fun _ _ _ _ _ _ h => h))))
set_option maxRecDepth 20000 in
theorem bX6_lastHasRoom_12 {X : pz_C} (hX : pz_X X cX6_lastHasRoom 1 RX6) : ∀ lv st g c s, (zo_al 1 0 (zo_get 8 0 (zo_al 1 0 (zo_get 8 0 (pz_Z X 1))))) 12 lv st g c s → pz_Z X 1 12 lv st g c s := (zs_aload_n hX dX6_lastHasRoom_12 rfl (zs_get hX (C := RX6) (T := TX6) (N := 6) rfl in_X6 (by decide) mw_aa01b0a6 dX6_lastHasRoom_13 (zs_aload_n hX dX6_lastHasRoom_16 rfl (zs_get hX (C := RX6) (T := TX6) (N := 6) rfl in_X6 (by decide) mw_aa01b0a6 dX6_lastHasRoom_17 (fun _ _ _ _ _ h => h)))))
set_option maxRecDepth 20000 in
theorem bX6_lastHasRoom_20 {X : pz_C} {G : pz_Gx} {rm : Room} (hX : pz_X X cX6_lastHasRoom 1 RX6) (hrm : pz_rm X = rm) (hGX : pz_GX X G) (hOk : pz_OK G) (gh : gt_Jx4a65c_size_8abf5) (hr_Jx4a65c_size_8abf5 : rm_Jx4a65c_size_8abf5.frames + 1 ≤ rm.frames ∧ 8 + (1 + 11) + rm_Jx4a65c_size_8abf5.locals ≤ rm.locals) : ∀ lv st g c s, (zo_cV rm 1 0 5 rm_Jx4a65c_size_8abf5.cells rm_Jx4a65c_size_8abf5.slots (pr_Jx4a65c_size_8abf5 gh) (po_Jx4a65c_size_8abf5 gh) (zo_ki (zo_ic 1 (1) (zo_isub (pz_Z X 1))))) 20 lv st g c s → pz_Z X 1 20 lv st g c s := by
  subst hrm
  exact (zs_csF hX hGX (C := RJx4a65c) (T := TJx4a65c) (N := 3) rfl (ct_Jx4a65c_size_8abf5 hOk gh) (hOk.2.1) mw_1dca36d4 mw_e0c83bb7 mw_8c7bf081 mw_dd3bf01c mw_d1eac4b0 (by decide +kernel) hr_Jx4a65c_size_8abf5 dX6_lastHasRoom_20 (zs_ki (zs_iconst hX dX6_lastHasRoom_25 (by decide) (zs_isub hX dX6_lastHasRoom_26 (fun _ _ _ _ _ h => h)))))
set_option maxRecDepth 20000 in
theorem bX6_lastHasRoom_27 {X : pz_C} {G : pz_Gx} {rm : Room} (hX : pz_X X cX6_lastHasRoom 1 RX6) (hrm : pz_rm X = rm) (hGX : pz_GX X G) (hOk : pz_OK G) (gh : gt_Jx4a65c_get_915e3) (hr_Jx4a65c_get_915e3 : rm_Jx4a65c_get_915e3.frames + 1 ≤ rm.frames ∧ 8 + (2 + 11) + rm_Jx4a65c_get_915e3.locals ≤ rm.locals) : ∀ lv st g c s, (zo_cV rm 1 1 5 rm_Jx4a65c_get_915e3.cells rm_Jx4a65c_get_915e3.slots (pr_Jx4a65c_get_915e3 gh) (po_Jx4a65c_get_915e3 gh) (zo_kr (zo_cast1 5 (pz_Z X 1)))) 27 lv st g c s → pz_Z X 1 27 lv st g c s := by
  subst hrm
  exact (zs_csF hX hGX (C := RJx4a65c) (T := TJx4a65c) (N := 3) rfl (ct_Jx4a65c_get_915e3 hOk gh) (hOk.2.2.1) mw_473bde84 mw_50a82afc mw_e81a0f1b mw_dd3bf01c mw_817361af (by decide +kernel) hr_Jx4a65c_get_915e3 dX6_lastHasRoom_27 (zs_kr (by first | exact Or.inl ⟨_, rfl⟩ | exact Or.inr ⟨_, rfl⟩) (zs_cast1 hX (C := RX3) (T := TX3) (N := 11) rfl mw_eccefa00 dX6_lastHasRoom_32 (fun _ _ _ _ _ h => h))))
set_option maxRecDepth 20000 in
theorem bX6_lastHasRoom_35 {X : pz_C} {G : pz_Gx} {rm : Room} (hX : pz_X X cX6_lastHasRoom 1 RX6) (hrm : pz_rm X = rm) (hGX : pz_GX X G) (hOk : pz_OK G) (gh : gt_X3_hasRoom) (hr_X3_hasRoom : rm_X3_hasRoom.frames + 1 ≤ rm.frames ∧ 8 + (1 + 11) + rm_X3_hasRoom.locals ≤ rm.locals) : ∀ lv st g c s, (zo_cV rm 5 0 3 rm_X3_hasRoom.cells rm_X3_hasRoom.slots (pr_X3_hasRoom gh) (po_X3_hasRoom gh) (zo_kz (zo_if_eq 45 (pz_Z X 1)))) 35 lv st g c s → pz_Z X 1 35 lv st g c s := by
  subst hrm
  exact (zs_csV hX hGX (C := RX3) (T := TX3) (N := 11) rfl (ct_X3_hasRoom hOk gh) mw_c191c69b mw_443464b6 mw_87633111 mw_ad64dfa1 mw_2a36a0f8 (by decide +kernel) hr_X3_hasRoom dX6_lastHasRoom_35 (zs_kz (zs_if_eq hX dX6_lastHasRoom_38 (by decide) (fun _ _ _ _ _ _ h => h))))
set_option maxRecDepth 20000 in
theorem bX6_lastHasRoom_41 {X : pz_C} (hX : pz_X X cX6_lastHasRoom 1 RX6) : ∀ lv st g c s, (zo_ic 1 (1) (zo_goto 46 (pz_Z X 1))) 41 lv st g c s → pz_Z X 1 41 lv st g c s := (zs_iconst hX dX6_lastHasRoom_41 (by decide) (zs_goto hX dX6_lastHasRoom_42 (by decide) (fun _ _ _ _ _ _ h => h)))
set_option maxRecDepth 20000 in
theorem bX6_lastHasRoom_45 {X : pz_C} (hX : pz_X X cX6_lastHasRoom 1 RX6) : ∀ lv st g c s, (zo_ic 1 (0) (pz_Z X 1)) 45 lv st g c s → pz_Z X 1 45 lv st g c s := (zs_iconst hX dX6_lastHasRoom_45 (by decide) (fun _ _ _ _ _ h => h))
set_option maxRecDepth 20000 in
theorem bX6_lastHasRoom_46 {X : pz_C} {rm : Room} {E : Option pz_V → pz_H → Prop} (hX : pz_X X cX6_lastHasRoom 1 RX6) (hR : pz_Rt X cX6_lastHasRoom 1 (some .boolean) rm E) : ∀ lv st g c s, (zo_rz rm E) 46 lv st g c s → pz_Z X 1 46 lv st g c s := (zs_rz hR dX6_lastHasRoom_46)
def rm_X6_lastHasRoom : Room := { frames := 3, cells := 0, slots := 0, locals := 64 }
abbrev gt_X6_lastHasRoom : Type := Nat × (Nat × Nat × Nat × Nat) × (Int32 × Int32) × (Nat → Int32) × (Nat × Nat) × (Nat → Nat) × Nat
def pr_X6_lastHasRoom : gt_X6_lastHasRoom → List pz_V → pz_H → Prop := fun (tx, (cm, sg, len, at'), (fa, ro), cf, (sa, m), hl, n) av g => av = [.inr (.inr (some (tx)))] ∧ txS g tx cm sg len at' fa ro cf ∧ lsE g cm [7] [8] sa m hl ∧ (0 < m → n ≤ 12 ∧ ∃ b fs, g (hl (m - 1)) = some (b, .inr (5, fs)) ∧ fs[4]? = some (.inl (nI n)))
def po_X6_lastHasRoom : gt_X6_lastHasRoom → List pz_V → pz_H → Option pz_V → pz_H → Prop := fun (tx, (cm, sg, len, at'), (fa, ro), cf, (sa, m), hl, n) _ g v g' => g' = g ∧ v = some (.inl (if m ≠ 0 ∧ n < 12 then 1 else 0))
set_option maxRecDepth 20000 in
theorem ct_X6_lastHasRoom {G : pz_Gx} (hOk : pz_OK G) (gh : gt_X6_lastHasRoom) : pz_M G yX6_lastHasRoom cX6_lastHasRoom 1 (some .boolean) rm_X6_lastHasRoom (pr_X6_lastHasRoom gh) (po_X6_lastHasRoom gh) := by
  obtain ⟨tx, ⟨cm, sg, len, at'⟩, ⟨fa, ro⟩, cf, ⟨sa, m⟩, hl, n⟩ := gh
  refine pz_ofZ (by decide) hOk.1 (Or.inr (Or.inr (Or.inl rfl))) ?_ ?_
  · rintro av g ⟨rfl, -⟩
    exact Nat.le_of_ble_eq_true rfl
  · rintro X hX hGX hrm - av g ⟨rfl, hts, hls, hm⟩ hR
    obtain ⟨h41, mc, ed, cap, o, hla, hc⟩ := id hls
    have out : ∀ x : Int32, (x = 0 ∨ x = 1) → x = (if m ≠ 0 ∧ n < 12 then 1 else 0) → pz_Z X 1 46 [(0, .inr (.inr (some (tx))))] [.inl (x)] g 0 0 := fun x hx he => bX6_lastHasRoom_46 hX hR _ _ _ _ _ ⟨hx, Nat.le_refl _, Nat.le_refl _, rfl, by rw [he]⟩
    refine bX6_lastHasRoom_0 hX _ _ _ _ _ ⟨_, _, _, hts.1, rfl, ?_⟩
    refine bX6_lastHasRoom_4 hX hrm hGX hOk (cm, nI m) (by decide) _ _ _ _ _ ⟨Nat.le_of_ble_eq_true rfl, ⟨cm, [], [7], _, rfl, hla⟩, Nat.le_of_ble_eq_true rfl, Nat.le_of_ble_eq_true rfl, Nat.le_of_ble_eq_true rfl, ⟨rfl, _, _, hla, rfl⟩, ?_⟩
    rintro v g2 ⟨rfl, rfl⟩ z hz -
    cases hz
    refine ⟨fun q => ?_, fun q => ?_⟩
    · have hm0 : m = 0 := by
        refine Classical.byContradiction fun e => q ?_
        exact if_neg (fun e2 => e (ni_inj (b := 0) (by omega) (by omega) e2))
      refine bX6_lastHasRoom_45 hX _ _ _ _ _ (out 0 (Or.inl rfl) ?_)
      rw [if_neg (fun e => e.1 hm0)]
    · have hm0 : m ≠ 0 := fun e => by
        subst e
        exact absurd q (by decide)
      obtain ⟨hn, b, fs, hgl, hfs⟩ := hm (by omega)
      refine bX6_lastHasRoom_12 hX _ _ _ _ _ ⟨_, _, _, hts.1, rfl, _, _, _, hts.1, rfl, ?_⟩
      refine bX6_lastHasRoom_20 hX hrm hGX hOk (cm, nI m) (by decide) _ _ _ _ _ ⟨Nat.le_of_ble_eq_true rfl, ⟨cm, [], [7], _, rfl, hla⟩, Nat.le_of_ble_eq_true rfl, Nat.le_of_ble_eq_true rfl, Nat.le_of_ble_eq_true rfl, ⟨rfl, _, _, hla, rfl⟩, ?_⟩
      rintro v g2 ⟨rfl, rfl⟩ z hz
      cases hz
      show pz_Z X 1 27 [(0, .inr (.inr (some (tx))))] [.inl (nI m - 1), .inr (.inr (some (cm)))] g2 0 0
      rw [ni_pred (by omega)]
      refine bX6_lastHasRoom_27 hX hrm hGX hOk (cm, m - 1, [7], [8], m, hl) (by decide) _ _ _ _ _ ⟨Nat.le_of_ble_eq_true rfl, ⟨cm, [.inl (nI (m - 1))], [7], _, rfl, hla⟩, Nat.le_of_ble_eq_true rfl, Nat.le_of_ble_eq_true rfl, Nat.le_of_ble_eq_true rfl, ⟨rfl, by omega, lsE_S hls⟩, ?_⟩
      rintro v g2 ⟨rfl, rfl⟩ z hz
      cases hz
      refine ⟨_, _, hgl, ?_⟩
      refine bX6_lastHasRoom_35 hX hrm hGX hOk (hl (m - 1), nI n) (by decide) _ _ _ _ _ ⟨Nat.le_of_ble_eq_true rfl, ⟨_, [], _, _, rfl, hgl⟩, Nat.le_of_ble_eq_true rfl, Nat.le_of_ble_eq_true rfl, Nat.le_of_ble_eq_true rfl, ⟨rfl, _, _, hgl, hfs⟩, ?_⟩
      rintro v g2 ⟨rfl, rfl⟩ z hz -
      cases hz
      have hi : (nI n < 12) ↔ n < 12 := ni_lt (b := 12) (by omega) (by omega)
      refine ⟨fun q => ?_, fun q => ?_⟩
      · refine bX6_lastHasRoom_45 hX _ _ _ _ _ (out 0 (Or.inl rfl) ?_)
        rw [if_neg]
        rintro ⟨_, e⟩
        rw [if_pos (hi.mpr e)] at q
        exact absurd q (by decide)
      · refine bX6_lastHasRoom_41 hX _ _ _ _ _ (out 1 (Or.inr rfl) ?_)
        rw [if_pos]
        refine ⟨hm0, Classical.byContradiction fun e => q ?_⟩
        rw [if_neg (fun e2 => e (hi.mp e2))]
set_option maxRecDepth 20000 in
theorem bX6_parseLine_0 {X : pz_C} (hX : pz_X X cX6_parseLine 2 RX6) : ∀ lv st g c s, (zo_al 1 0 (zo_ic 1 (0) (zo_ic 2 (127) (pz_Z X 2)))) 0 lv st g c s → pz_Z X 2 0 lv st g c s := (zs_aload_n hX dX6_parseLine_0 rfl (zs_iconst hX dX6_parseLine_1 (by decide) (zs_bipush hX dX6_parseLine_2 (by decide) (fun _ _ _ _ _ h => h))))
set_option maxRecDepth 20000 in
theorem bX6_parseLine_4 {X : pz_C} {G : pz_Gx} {sa md mi : Nat} {rm : Room} (hX : pz_X X cX6_parseLine 2 RX6) (hrm : pz_rm X = rm) (hGX : pz_GX X G) (hOk : pz_O2 G sa md mi) (gh : gt_X6_parseNumber) (hr_X6_parseNumber : rm_X6_parseNumber.frames + 1 ≤ rm.frames ∧ 8 + (5 + 11) + rm_X6_parseNumber.locals ≤ rm.locals) : ∀ lv st g c s, (zo_cV rm 8 2 3 rm_X6_parseNumber.cells rm_X6_parseNumber.slots (pr_X6_parseNumber gh) (po_X6_parseNumber gh) (zo_ki (zo_is 1 1 (zo_al 1 0 (zo_get 8 4 (zo_ic 1 (-1) (zo_ic_ne 34 (pz_Z X 2)))))))) 4 lv st g c s → pz_Z X 2 4 lv st g c s := by
  subst hrm
  exact (zs_csV hX hGX (C := RX6) (T := TX6) (N := 6) rfl (ct_X6_parseNumber hOk.1 gh) mw_7360403f mw_283d2462 mw_ecfa4db1 mw_59af5b5a mw_5fc2b268 (by decide +kernel) hr_X6_parseNumber dX6_parseLine_4 (zs_ki (zs_istore_n hX dX6_parseLine_7 rfl (by decide) (zs_aload_n hX dX6_parseLine_8 rfl (zs_get hX (C := RX6) (T := TX6) (N := 6) rfl in_X6 (by decide) mw_f486a86b dX6_parseLine_9 (zs_iconst hX dX6_parseLine_12 (by decide) (zs_ic_ne hX dX6_parseLine_13 (by decide) (fun _ _ _ _ _ _ h => h))))))))
set_option maxRecDepth 20000 in
theorem bX6_parseLine_16 {X : pz_C} {rm : Room} (hX : pz_X X cX6_parseLine 2 RX6) (hrm : pz_rm X = rm) : ∀ lv st g c s, (zo_al 1 0 (zo_get 8 0 (zo_new rm 5 11 [.inl 0, .inr (.inr none), .inr (.inr none), .inr (.inr none), .inl 0, .inr (.inr none), .inr (.inr none), .inr (.inr none), .inr (.inr none), .inr (.inr none), .inr (.inr none)] (zo_dup (zo_il 1 1 (pz_Z X 2)))))) 16 lv st g c s → pz_Z X 2 16 lv st g c s := by
  subst hrm
  exact (zs_aload_n hX dX6_parseLine_16 rfl (zs_get hX (C := RX6) (T := TX6) (N := 6) rfl in_X6 (by decide) mw_aa01b0a6 dX6_parseLine_17 (zs_new hX (C := RX3) (T := TX3) rfl in_X3 tyX3 tyX3_ok mw_eccefa00 mw_5ff7e16d mw_ad64dfa1 (fun j hj => by rcases (show j = 0 ∨ j = 1 ∨ j = 2 ∨ j = 3 ∨ j = 4 ∨ j = 5 ∨ j = 6 ∨ j = 7 ∨ j = 8 ∨ j = 9 ∨ j = 10 by omega) with rfl | rfl | rfl | rfl | rfl | rfl | rfl | rfl | rfl | rfl | rfl <;> rfl) dX6_parseLine_20 (zs_dup hX dX6_parseLine_23 (zs_iload_n hX dX6_parseLine_24 rfl (fun _ _ _ _ _ h => h))))))
set_option maxRecDepth 20000 in
theorem bX6_parseLine_25 {X : pz_C} {G : pz_Gx} {sa md mi : Nat} {rm : Room} (hX : pz_X X cX6_parseLine 2 RX6) (hrm : pz_rm X = rm) (hGX : pz_GX X G) (hOk : pz_O2 G sa md mi) (gh : gt_X3_init) (hr_X3_init : rm_X3_init.frames + 1 ≤ rm.frames ∧ 8 + (2 + 11) + rm_X3_init.locals ≤ rm.locals) : ∀ lv st g c s, (zo_cI rm 1 3 rm_X3_init.cells rm_X3_init.slots (pr_X3_init gh) (po_X3_init gh) (zo_kv (pz_Z X 2))) 25 lv st g c s → pz_Z X 2 25 lv st g c s := by
  subst hrm
  exact (zs_csI hX hGX (ct_X3_init hOk gh) mw_75c329a4 mw_bed9cbb3 mw_ad64dfa1 mw_e5c97563 rfl (by decide +kernel) hr_X3_init dX6_parseLine_25 (zs_kv (fun _ _ _ _ _ h => h)))
set_option maxRecDepth 20000 in
theorem bX6_parseLine_28 {X : pz_C} {G : pz_Gx} {sa md mi : Nat} {rm : Room} (hX : pz_X X cX6_parseLine 2 RX6) (hrm : pz_rm X = rm) (hGX : pz_GX X G) (hOk : pz_O2 G sa md mi) (gh : gt_Jx4a65c_add_9ea2d) (hr_Jx4a65c_add_9ea2d : rm_Jx4a65c_add_9ea2d.frames + 1 ≤ rm.frames ∧ 8 + (2 + 11) + rm_Jx4a65c_add_9ea2d.locals ≤ rm.locals) : ∀ lv st g c s, (zo_cV rm 1 1 5 rm_Jx4a65c_add_9ea2d.cells rm_Jx4a65c_add_9ea2d.slots (pr_Jx4a65c_add_9ea2d sa gh) (po_Jx4a65c_add_9ea2d sa gh) (zo_kz (zo_pop (pz_Z X 2)))) 28 lv st g c s → pz_Z X 2 28 lv st g c s := by
  subst hrm
  exact (zs_csF hX hGX (C := RJx4a65c) (T := TJx4a65c) (N := 3) rfl (ct_Jx4a65c_add_9ea2d hOk gh) (hOk.1.2.2.2.1) mw_ca7ab130 mw_40c6a661 mw_4686a889 mw_dd3bf01c mw_b7383cc8 (by decide +kernel) hr_Jx4a65c_add_9ea2d dX6_parseLine_28 (zs_kz (zs_pop hX dX6_parseLine_33 (fun _ _ _ _ _ h => h))))
set_option maxRecDepth 20000 in
theorem bX6_parseLine_34 {X : pz_C} {rm : Room} {E : Option pz_V → pz_H → Prop} (hX : pz_X X cX6_parseLine 2 RX6) (hR : pz_Rt X cX6_parseLine 2 none rm E) : ∀ lv st g c s, (zo_rv rm E) 34 lv st g c s → pz_Z X 2 34 lv st g c s := (zs_rv hR dX6_parseLine_34)
def rm_X6_parseLine : Room := { frames := 7, cells := 35, slots := 471, locals := 171 }
abbrev gt_X6_parseLine : Type := Nat × (Nat × Nat × Nat × Nat) × (Int32 × Int32) × (Nat → Int32) × (Nat × (Nat → lr_T) × (Nat → cl_D)) × Nat × Nat
def tpS (sa : Nat) (g : pz_H) : Nat × (Nat × Nat × Nat × Nat) × (Int32 × Int32) × (Nat → Int32) × (Nat × (Nat → lr_T) × (Nat → cl_D)) × Nat × Nat → Prop := fun (tx, (cm, sg, len, at'), (fa, ro), cf, (m, K, D), U0, U) => txS g tx cm sg len at' fa ro cf ∧ len ≤ 500 ∧ at' ≤ len ∧ U0 ≤ U ∧ cmS g cm sa m K D U0 U
/-- the text after a part of it was parsed -/
def tpP (sa : Nat) (g g' : pz_H) (s : tp_T) : Nat × (Nat × Nat × Nat × Nat) × (Int32 × Int32) × (Nat → Int32) × (Nat × (Nat → lr_T) × (Nat → cl_D)) × Nat × Nat → Prop := fun (tx, (cm, sg, len, _), (_, ro), cf, _, U0, U) => hg (trSc U0) g g' ∧ ∃ K' U', U ≤ U' ∧ tpS sa g' (tx, (cm, sg, len, s.1.1), (s.1.2, ro), cf, (s.2.1, K', s.2.2), U0, U')
def pr_X6_parseLine (sa : Nat) : gt_X6_parseLine → List pz_V → pz_H → Prop := fun (tx, (cm, sg, len, at'), (fa, ro), cf, (m, K, D), U0, U) av g => av = [.inr (.inr (some (tx)))] ∧ m ≤ 39 ∧ tpS sa g (tx, (cm, sg, len, at'), (fa, ro), cf, (m, K, D), U0, U)
def po_X6_parseLine (sa : Nat) : gt_X6_parseLine → List pz_V → pz_H → Option pz_V → pz_H → Prop := fun (tx, (cm, sg, len, at'), (fa, ro), cf, (m, K, D), U0, U) _ g v g' => v = none ∧ tpP sa g g' (tp_L len cf ((at', fa), m, D)) (tx, (cm, sg, len, at'), (fa, ro), cf, (m, K, D), U0, U)
set_option maxRecDepth 20000 in
set_option maxHeartbeats 4000000 in
theorem ct_X6_parseLine {G : pz_Gx} {sa md mi : Nat} (hOk : pz_O2 G sa md mi) (gh : gt_X6_parseLine) : pz_M G yX6_parseLine cX6_parseLine 2 none rm_X6_parseLine (pr_X6_parseLine sa gh) (po_X6_parseLine sa gh) := by
  obtain ⟨tx, ⟨cm, sg, len, at'⟩, ⟨fa, ro⟩, cf, ⟨m, K, D⟩, U0, U⟩ := gh
  refine pz_ofZ (by decide) hOk.1.1 (Or.inl rfl) ?_ ?_
  · rintro av g ⟨rfl, -⟩
    exact Nat.le_of_ble_eq_true rfl
  · rintro X hX hGX hrm - av g ⟨rfl, hm, hts, hlen, hat, hU, hcm⟩ hR
    refine bX6_parseLine_0 hX _ _ _ _ _ ?_
    refine bX6_parseLine_4 hX hrm hGX hOk ((tx, 0, 127), (cm, sg, len, at'), (fa, ro), cf) (by decide) _ _ _ _ _ ⟨Nat.le_of_ble_eq_true rfl, ⟨tx, [.inl (0), .inl (127)], [4], _, rfl, hts.1⟩, Nat.le_of_ble_eq_true rfl, Nat.le_of_ble_eq_true rfl, Nat.le_of_ble_eq_true rfl, ⟨rfl, hlen, hat, hts⟩, ?_⟩
    rintro v g1 ⟨rfl, h1, t1⟩ z hz
    cases hz
    have hmv := nu_mv (f := cf) (lo := 0) (hi := 127) (s := (at', fa)) hat
    have c1 := cmS_mono h1 (fun b hb => Or.inl hb) hcm
    have hh1 := hg_mono h1 (S' := trSc U0) (fun b hb => Or.inl hb)
    have eL : tp_L len cf ((at', fa), m, D) = ((tx_nu len cf 0 127 (at', fa)).1, if (tx_nu len cf 0 127 (at', fa)).1.2 = -1 then (m + 1, clU D m (cl_0 (tx_nu len cf 0 127 (at', fa)).2)) else (m, D)) := rfl
    generalize tx_nu len cf 0 127 (at', fa) = s at *
    refine ⟨_, _, _, t1.1, rfl, fun q => ?_, fun q => ?_⟩
    · refine bX6_parseLine_34 hX hR _ _ _ _ _ ⟨Nat.le_of_ble_eq_true rfl, Nat.le_of_ble_eq_true rfl, rfl, ?_⟩
      rw [eL, if_neg q]
      exact ⟨hh1, K, U, Nat.le_refl _, t1, hlen, hmv.2, hU, c1⟩
    · have hq : s.1.2 = -1 := q
      obtain ⟨⟨h41, mc, ed, cap, o, hla, hc⟩, hK2, hK3⟩ := id c1
      refine bX6_parseLine_16 hX hrm _ _ _ _ _ ⟨_, _, _, t1.1, rfl, Nat.le_of_ble_eq_true rfl, Nat.le_of_ble_eq_true rfl, [30, U], fun q2 hq2 => ⟨rfl, ?_⟩⟩
      refine bX6_parseLine_25 hX hrm hGX hOk (q2, U, s.2) (by decide) _ _ _ _ _ ⟨Nat.le_of_ble_eq_true rfl, ⟨q2, [.inl (s.2)], rfl⟩, Nat.le_of_ble_eq_true rfl, Nat.le_of_ble_eq_true rfl, Nat.le_of_ble_eq_true rfl, ⟨rfl, up_at⟩, ?_⟩
      rintro v g2 ⟨rfl, h2, La, Ra, Rd, o2, r2⟩ -
      have t2 := hg_tr (hg_new (S := fun b => b = [30, U]) (v := some ([30, U], .inr (5, ln_df))) hg_rf hq2) h2
      have c2 := cmS_mono t2 (fun b hb => Or.inr ⟨U, Nat.le_refl _, hb⟩) c1
      have x2 := txS_mono t2 (by simp) t1
      have cell2 := o2.2.1.1
      refine bX6_parseLine_28 hX hrm hGX hOk (cm, ([7], [8]), m, q2, ([30, U], _), fun i => lr_h (K i)) (by decide) _ _ _ _ _ ⟨Nat.le_of_ble_eq_true rfl, ⟨cm, [.inr (.inr (some (q2)))], [7], _, rfl, t2 _ _ _ hla (by simp)⟩, Nat.le_of_ble_eq_true rfl, Nat.le_of_ble_eq_true rfl, Nat.le_of_ble_eq_true rfl, ⟨rfl, ⟨by omega, by decide, by decide, by decide, by simp, by simp⟩, c2.1, cell2, fun i hi => ⟨_, _, (c2.2.1 i hi).1.2.1.1, by simp⟩⟩, ?_⟩
      rintro v g3 ⟨rfl, h3, l3⟩ z hz -
      cases hz
      refine ⟨rfl, ?_⟩
      refine bX6_parseLine_34 hX hR _ _ _ _ _ ⟨Nat.le_of_ble_eq_true rfl, Nat.le_of_ble_eq_true rfl, rfl, ?_⟩
      rw [eL, if_pos hq]
      have n3 : ∀ b : List Nat, b ≠ [7] → b ≠ [8] → ¬ (b = [7] ∨ b = [8]) := fun b a1 a2 h => by rcases h with h | h; exact a1 h; exact a2 h
      refine ⟨hg_tr hh1 (hg_tr (hg_mono t2 (fun b hb => Or.inr (Or.inr (Or.inr ⟨U, hU, Or.inl hb⟩)))) (hg_mono h3 (fun b hb => by rcases hb with hb | hb; exact Or.inr (Or.inl hb); exact Or.inr (Or.inr (Or.inl hb))))), (fun i => if i = m then lr_z U q2 La Ra Rd s.2 (fun _ => 0) (fun _ => 0) (fun _ => 0) else K i), U + 1, by omega, txS_mono h3 ⟨n3 _ (by decide) (by decide), n3 _ (by decide) (by decide)⟩ x2, hlen, hmv.2, by omega, ?_, fun i hi => ?_, fun i j hi hj e => ?_⟩
      · have : (fun i => if i = m then q2 else lr_h (K i)) = fun i => lr_h (if i = m then lr_z U q2 La Ra Rd s.2 (fun _ => 0) (fun _ => 0) (fun _ => 0) else K i) := by
          funext i
          by_cases him : i = m
          · rw [if_pos him, if_pos him]; rfl
          · rw [if_neg him, if_neg him]
        rw [this] at l3
        exact l3
      · have hi : i < m + 1 := hi
        by_cases him : i = m
        · subst him
          dsimp only
          rw [if_pos rfl]
          refine ⟨lrOK_mono h3 _ ⟨⟨n3 _ (by simp) (by simp), n3 _ (by simp) (by simp), n3 _ (by simp) (by simp), n3 _ (by simp) (by simp), n3 _ (by simp) (by simp), n3 _ (by simp) (by simp)⟩, fun d => n3 _ (by simp) (by simp), n3 _ (by simp) (by simp)⟩ o2, ⟨_, _, _, lrT_mono h3 _ ⟨n3 _ (by simp) (by simp), fun i => n3 _ (by simp) (by simp), fun i => n3 _ (by simp) (by simp), n3 _ (by simp) (by simp)⟩ r2⟩, ?_, hU, Nat.lt_succ_self _⟩
          unfold clU
          rw [if_pos rfl]
          exact ⟨rfl, rfl, rfl, rfl, rfl⟩
        · dsimp only
          rw [if_neg him]
          obtain ⟨a1, ⟨rn, A, B, a2⟩, a3, a4, a5⟩ := c2.2.1 i (by omega)
          refine ⟨lrOK_mono h3 _ ⟨⟨n3 _ (by simp) (by simp), n3 _ (by simp) (by simp), n3 _ (by simp) (by simp), n3 _ (by simp) (by simp), n3 _ (by simp) (by simp), n3 _ (by simp) (by simp)⟩, fun d => n3 _ (by simp) (by simp), n3 _ (by simp) (by simp)⟩ a1, ⟨_, _, _, lrT_mono h3 _ ⟨n3 _ (by simp) (by simp), fun i => n3 _ (by simp) (by simp), fun i => n3 _ (by simp) (by simp), n3 _ (by simp) (by simp)⟩ a2⟩, ?_, a4, by omega⟩
          unfold clU
          rw [if_neg him]
          exact a3
      · have hi : i < m + 1 := hi
        have hj : j < m + 1 := hj
        dsimp only at e
        by_cases him : i = m <;> by_cases hjm : j = m
        · omega
        · rw [if_pos him, if_neg hjm] at e
          have := (c2.2.1 j (by omega)).2.2.2.2
          have e' : U = lr_u (K j) := e
          omega
        · rw [if_neg him, if_pos hjm] at e
          have := (c2.2.1 i (by omega)).2.2.2.2
          have e' : lr_u (K i) = U := e
          omega
        · rw [if_neg him, if_neg hjm] at e
          exact hK3 i j (by omega) (by omega) e
