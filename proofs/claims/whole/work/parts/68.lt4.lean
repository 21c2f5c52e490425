/-! LineTimes: line -/
/-- the net's lines; all their numbers lie before U -/
def nlE (g : pz_H) (la sa nl : Nat) (L : Nat → lr_T) (U : Nat) : Prop := nl ≤ 40 ∧ lsE g la [5] [6] sa nl (fun i => lr_h (L i)) ∧ (∀ i, i < nl → lrOK g (L i) ∧ (∃ rn A B, lrT g (L i) rn A B) ∧ lr_u (L i) < U) ∧ ∀ i j, i < nl → j < nl → lr_u (L i) = lr_u (L j) → i = j
theorem nlE_S {g : pz_H} {la sa nl U : Nat} {L : Nat → lr_T} (h : nlE g la sa nl L U) : nlS g la nl L := ⟨h.1, lsE_S h.2.1, fun i hi => (h.2.2.1 i hi).1, h.2.2.2⟩
theorem nlE_mono {g g' : pz_H} {S : List Nat → Prop} (hh : hg S g g') {la sa nl U : Nat} {L : Nat → lr_T} (h0 : ¬ S [5] ∧ ¬ S [6] ∧ ¬ S [50]) (hS : ∀ u, u < U → ∀ b, S b → ∀ x r, b ≠ x :: u :: r) (h : nlE g la sa nl L U) : nlE g' la sa nl L U := by
  obtain ⟨h1, h2, h3, h4⟩ := h
  refine ⟨h1, lsE_mono hh h0 h2, fun i hi => ?_, h4⟩
  obtain ⟨a1, ⟨rn, A, B, a2⟩, a3⟩ := h3 i hi
  have n : ∀ (x : Nat) (r : List Nat), ¬ S (x :: lr_u (L i) :: r) := fun x r hb => hS _ a3 _ hb x r rfl
  exact ⟨lrOK_mono hh (L i) ⟨⟨n _ _, n _ _, n _ _, n _ _, n _ _, n _ _⟩, fun d => n _ _, n _ _⟩ a1, ⟨rn, A, B, lrT_mono hh (L i) ⟨n _ _, fun i => n _ _, fun i => n _ _, n _ _⟩ a2⟩, a3⟩
set_option maxRecDepth 20000 in
theorem bX9_line_0 {X : pz_C} (hX : pz_X X cX9_line 2 RX9) : ∀ lv st g c s, (zo_il 1 1 (zo_i2l (zo_lc 1 (0) (zo_lc 3 (127) (pz_Z X 2))))) 0 lv st g c s → pz_Z X 2 0 lv st g c s := (zs_iload_n hX dX9_line_0 rfl (zs_i2l hX dX9_line_1 (zs_lconst hX dX9_line_2 (by decide) (zs_ldc2 hX dX9_line_3 mw_b1e716db (fun _ _ _ _ _ h => h)))))
set_option maxRecDepth 20000 in
theorem bX9_line_6 {X : pz_C} {G : pz_Gx} {sa md mi : Nat} {PX : String → pz_H → Prop} {rm : Room} (hX : pz_X X cX9_line 2 RX9) (hrm : pz_rm X = rm) (hGX : pz_GX X G) (hOk : pz_O3 G sa md mi) (hT : pz_Te X 2 rm PX) (gh : gt_X9_requireRange) (hr_X9_requireRange : rm_X9_requireRange.frames + 1 ≤ rm.frames ∧ 8 + (6 + 11) + rm_X9_requireRange.locals ≤ rm.locals) : ∀ lv st g c s, (zo_csX rm 3 3 rm_X9_requireRange.cells rm_X9_requireRange.slots (pr_X9_requireRange gh) (po_X9_requireRange gh) (px_X9_requireRange gh) (zo_te rm PX) (zo_kv (zo_al 1 0 (zo_get 11 0 (zo_get 6 0 (pz_Z X 2)))))) 6 lv st g c s → pz_Z X 2 6 lv st g c s := by
  subst hrm
  exact (zs_csSX hX hGX (ct_X9_requireRange hOk gh) mw_6378151b mw_14fb916b mw_8bb91264 mw_a40b3fa2 (by decide +kernel) hr_X9_requireRange dX9_line_6 (zs_te hT) (zs_kv (zs_aload_n hX dX9_line_9 rfl (zs_get hX (C := RX9) (T := TX9) (N := 7) rfl in_X9 (by decide) mw_a7a80db5 dX9_line_10 (zs_get hX (C := RX4) (T := TX4) (N := 5) rfl in_X4 (by decide) mw_2e6b86cc dX9_line_13 (fun _ _ _ _ _ h => h))))))
set_option maxRecDepth 20000 in
theorem bX9_line_16 {X : pz_C} {G : pz_Gx} {sa md mi : Nat} {rm : Room} (hX : pz_X X cX9_line 2 RX9) (hrm : pz_rm X = rm) (hGX : pz_GX X G) (hOk : pz_O3 G sa md mi) (gh : gt_Jx4a65c_size_8abf5) (hr_Jx4a65c_size_8abf5 : rm_Jx4a65c_size_8abf5.frames + 1 ≤ rm.frames ∧ 8 + (1 + 11) + rm_Jx4a65c_size_8abf5.locals ≤ rm.locals) : ∀ lv st g c s, (zo_cV rm 1 0 5 rm_Jx4a65c_size_8abf5.cells rm_Jx4a65c_size_8abf5.slots (pr_Jx4a65c_size_8abf5 gh) (po_Jx4a65c_size_8abf5 gh) (zo_ki (zo_ic 2 (40) (zo_ic_ge 30 (pz_Z X 2))))) 16 lv st g c s → pz_Z X 2 16 lv st g c s := by
  subst hrm
  exact (zs_csF hX hGX (C := RJx4a65c) (T := TJx4a65c) (N := 3) rfl (ct_Jx4a65c_size_8abf5 hOk.1.1 gh) (hOk.1.1.2.1) mw_54f589cd mw_e0c83bb7 mw_8c7bf081 mw_dd3bf01c mw_d1eac4b0 (by decide +kernel) hr_Jx4a65c_size_8abf5 dX9_line_16 (zs_ki (zs_bipush hX dX9_line_21 (by decide) (zs_ic_ge hX dX9_line_23 (by decide) (fun _ _ _ _ _ _ h => h)))))
set_option maxRecDepth 20000 in
theorem bX9_line_26 {X : pz_C} (hX : pz_X X cX9_line 2 RX9) : ∀ lv st g c s, (zo_ic 1 (1) (zo_goto 31 (pz_Z X 2))) 26 lv st g c s → pz_Z X 2 26 lv st g c s := (zs_iconst hX dX9_line_26 (by decide) (zs_goto hX dX9_line_27 (by decide) (fun _ _ _ _ _ _ h => h)))
set_option maxRecDepth 20000 in
theorem bX9_line_30 {X : pz_C} (hX : pz_X X cX9_line 2 RX9) : ∀ lv st g c s, (zo_ic 1 (0) (pz_Z X 2)) 30 lv st g c s → pz_Z X 2 30 lv st g c s := (zs_iconst hX dX9_line_30 (by decide) (fun _ _ _ _ _ h => h))
set_option maxRecDepth 20000 in
theorem bX9_line_31 {X : pz_C} {G : pz_Gx} {sa md mi : Nat} {PX : String → pz_H → Prop} {rm : Room} (hX : pz_X X cX9_line 2 RX9) (hrm : pz_rm X = rm) (hGX : pz_GX X G) (hOk : pz_O3 G sa md mi) (hT : pz_Te X 2 rm PX) (gh : gt_X9_requireRoom) (hr_X9_requireRoom : rm_X9_requireRoom.frames + 1 ≤ rm.frames ∧ 8 + (1 + 11) + rm_X9_requireRoom.locals ≤ rm.locals) : ∀ lv st g c s, (zo_csX rm 1 3 rm_X9_requireRoom.cells rm_X9_requireRoom.slots (pr_X9_requireRoom gh) (po_X9_requireRoom gh) (px_X9_requireRoom gh) (zo_te rm PX) (zo_kv (zo_al 1 0 (zo_get 11 0 (zo_get 6 0 (zo_new rm 5 11 [.inl 0, .inr (.inr none), .inr (.inr none), .inr (.inr none), .inl 0, .inr (.inr none), .inr (.inr none), .inr (.inr none), .inr (.inr none), .inr (.inr none), .inr (.inr none)] (zo_dup (zo_il 1 1 (pz_Z X 2))))))))) 31 lv st g c s → pz_Z X 2 31 lv st g c s := by
  subst hrm
  exact (zs_csSX hX hGX (ct_X9_requireRoom hOk gh) mw_beef0b16 mw_3412a6f2 mw_8bb91264 mw_389c92d4 (by decide +kernel) hr_X9_requireRoom dX9_line_31 (zs_te hT) (zs_kv (zs_aload_n hX dX9_line_34 rfl (zs_get hX (C := RX9) (T := TX9) (N := 7) rfl in_X9 (by decide) mw_a7a80db5 dX9_line_35 (zs_get hX (C := RX4) (T := TX4) (N := 5) rfl in_X4 (by decide) mw_2e6b86cc dX9_line_38 (zs_new hX (C := RX3) (T := TX3) rfl in_X3 tyX3 tyX3_ok mw_78b2f1f9 mw_5ff7e16d mw_ad64dfa1 (fun j hj => by rcases (show j = 0 ∨ j = 1 ∨ j = 2 ∨ j = 3 ∨ j = 4 ∨ j = 5 ∨ j = 6 ∨ j = 7 ∨ j = 8 ∨ j = 9 ∨ j = 10 by omega) with rfl | rfl | rfl | rfl | rfl | rfl | rfl | rfl | rfl | rfl | rfl <;> rfl) dX9_line_41 (zs_dup hX dX9_line_44 (zs_iload_n hX dX9_line_45 rfl (fun _ _ _ _ _ h => h)))))))))
set_option maxRecDepth 20000 in
theorem bX9_line_46 {X : pz_C} {G : pz_Gx} {sa md mi : Nat} {rm : Room} (hX : pz_X X cX9_line 2 RX9) (hrm : pz_rm X = rm) (hGX : pz_GX X G) (hOk : pz_O3 G sa md mi) (gh : gt_X3_init) (hr_X3_init : rm_X3_init.frames + 1 ≤ rm.frames ∧ 8 + (2 + 11) + rm_X3_init.locals ≤ rm.locals) : ∀ lv st g c s, (zo_cI rm 1 3 rm_X3_init.cells rm_X3_init.slots (pr_X3_init gh) (po_X3_init gh) (zo_kv (pz_Z X 2))) 46 lv st g c s → pz_Z X 2 46 lv st g c s := by
  subst hrm
  exact (zs_csI hX hGX (ct_X3_init hOk.1 gh) mw_50c8143a mw_bed9cbb3 mw_ad64dfa1 mw_e5c97563 rfl (by decide +kernel) hr_X3_init dX9_line_46 (zs_kv (fun _ _ _ _ _ h => h)))
set_option maxRecDepth 20000 in
theorem bX9_line_49 {X : pz_C} {G : pz_Gx} {sa md mi : Nat} {rm : Room} (hX : pz_X X cX9_line 2 RX9) (hrm : pz_rm X = rm) (hGX : pz_GX X G) (hOk : pz_O3 G sa md mi) (gh : gt_Jx4a65c_add_9ea2d) (hr_Jx4a65c_add_9ea2d : rm_Jx4a65c_add_9ea2d.frames + 1 ≤ rm.frames ∧ 8 + (2 + 11) + rm_Jx4a65c_add_9ea2d.locals ≤ rm.locals) : ∀ lv st g c s, (zo_cV rm 1 1 5 rm_Jx4a65c_add_9ea2d.cells rm_Jx4a65c_add_9ea2d.slots (pr_Jx4a65c_add_9ea2d sa gh) (po_Jx4a65c_add_9ea2d sa gh) (zo_kz (zo_pop (zo_al 1 0 (zo_get 11 0 (zo_get 6 0 (pz_Z X 2))))))) 49 lv st g c s → pz_Z X 2 49 lv st g c s := by
  subst hrm
  exact (zs_csF hX hGX (C := RJx4a65c) (T := TJx4a65c) (N := 3) rfl (ct_Jx4a65c_add_9ea2d hOk.1 gh) (hOk.1.1.2.2.2.1) mw_deed4cf9 mw_40c6a661 mw_4686a889 mw_dd3bf01c mw_b7383cc8 (by decide +kernel) hr_Jx4a65c_add_9ea2d dX9_line_49 (zs_kz (zs_pop hX dX9_line_54 (zs_aload_n hX dX9_line_55 rfl (zs_get hX (C := RX9) (T := TX9) (N := 7) rfl in_X9 (by decide) mw_a7a80db5 dX9_line_56 (zs_get hX (C := RX4) (T := TX4) (N := 5) rfl in_X4 (by decide) mw_2e6b86cc dX9_line_59 (fun _ _ _ _ _ h => h)))))))
set_option maxRecDepth 20000 in
theorem bX9_line_62 {X : pz_C} {G : pz_Gx} {sa md mi : Nat} {rm : Room} {E : Option pz_V → pz_H → Prop} (hX : pz_X X cX9_line 2 RX9) (hR : pz_Rt X cX9_line 2 (some .int) rm E) (hrm : pz_rm X = rm) (hGX : pz_GX X G) (hOk : pz_O3 G sa md mi) (gh : gt_Jx4a65c_size_8abf5) (hr_Jx4a65c_size_8abf5 : rm_Jx4a65c_size_8abf5.frames + 1 ≤ rm.frames ∧ 8 + (1 + 11) + rm_Jx4a65c_size_8abf5.locals ≤ rm.locals) : ∀ lv st g c s, (zo_cV rm 1 0 5 rm_Jx4a65c_size_8abf5.cells rm_Jx4a65c_size_8abf5.slots (pr_Jx4a65c_size_8abf5 gh) (po_Jx4a65c_size_8abf5 gh) (zo_ki (zo_ic 1 (1) (zo_isub (zo_ri rm E))))) 62 lv st g c s → pz_Z X 2 62 lv st g c s := by
  subst hrm
  exact (zs_csF hX hGX (C := RJx4a65c) (T := TJx4a65c) (N := 3) rfl (ct_Jx4a65c_size_8abf5 hOk.1.1 gh) (hOk.1.1.2.1) mw_54f589cd mw_e0c83bb7 mw_8c7bf081 mw_dd3bf01c mw_d1eac4b0 (by decide +kernel) hr_Jx4a65c_size_8abf5 dX9_line_62 (zs_ki (zs_iconst hX dX9_line_67 (by decide) (zs_isub hX dX9_line_68 (zs_ri hR dX9_line_69)))))
def rm_X9_line : Room := { frames := 7, cells := 37, slots := 483, locals := 171 }
abbrev gt_X9_line : Type := (Nat × Int32) × (Nat × Nat × Nat × Nat) × (Nat × Nat × Nat) × (Nat × Nat × Nat × Nat × Int32 × (Nat → Nat)) × (Nat × (Nat → lr_T) × Nat)
def pr_X9_line (sa : Nat) : gt_X9_line → List pz_V → pz_H → Prop := fun ((h, x), (nt, wy, lv, tx), (ne, nz, nw), (la, pa, na, so, fd, Wa), (nl, L, U)) av g => av = [.inr (.inr (some (h))), .inl (x)] ∧ ltS g h nt wy lv tx ne nz nw ∧ ntS g nt la pa na so fd Wa ∧ nlE g la sa nl L U
def po_X9_line (sa : Nat) : gt_X9_line → List pz_V → pz_H → Option pz_V → pz_H → Prop := fun ((h, x), (nt, wy, lv, tx), (ne, nz, nw), (la, pa, na, so, fd, Wa), (nl, L, U)) _ g v g' => ¬ bdR x.toInt64 0 127 ∧ nl < 40 ∧ v = some (.inl (nI nl)) ∧ hg (fun b => b = [30, U] ∨ b = [5] ∨ b = [6]) g g' ∧ ∃ q La Ra Rd, nlE g' la sa (nl + 1) (fun i => if i = nl then lr_z U q La Ra Rd x (fun _ => 0) (fun _ => 0) (fun _ => 0) else L i) (U + 1)
def px_X9_line (sa : Nat) : gt_X9_line → List pz_V → pz_H → String → pz_H → Prop := fun ((h, x), _, _, _, (nl, _)) _ g E g' => g' = g ∧ ((E = nIAE ∧ bdR x.toInt64 0 127) ∨ (E = nUOE ∧ ¬ bdR x.toInt64 0 127 ∧ nl = 40))
set_option maxRecDepth 20000 in
set_option maxHeartbeats 4000000 in
theorem ct_X9_line {G : pz_Gx} {sa md mi : Nat} (hOk : pz_O3 G sa md mi) (gh : gt_X9_line) : pz_MX G yX9_line cX9_line 2 (some .int) rm_X9_line (pr_X9_line sa gh) (po_X9_line sa gh) (px_X9_line sa gh) := by
  obtain ⟨⟨h, x⟩, ⟨nt, wy, lv, tx⟩, ⟨ne, nz, nw⟩, ⟨la, pa, na, so, fd, Wa⟩, nl, L, U⟩ := gh
  refine pz_ofZX (by decide) hOk.1.1.1 (Or.inr (Or.inl rfl)) ?_ ?_
  · rintro av g ⟨rfl, -⟩
    exact Nat.le_of_ble_eq_true rfl
  · rintro X hX hGX hrm av g ⟨rfl, hlt, hnt, hnl⟩ hR hT -
    obtain ⟨hn40, hls, hL, hinj⟩ := id hnl
    obtain ⟨h41, mc, ed, cap, o, hla, hc⟩ := id hls
    refine bX9_line_0 hX _ _ _ _ _ ?_
    refine bX9_line_6 hX hrm hGX hOk hT (x.toInt64, 0, 127) (by decide) _ _ _ _ _ ⟨Nat.le_of_ble_eq_true rfl, Nat.le_of_ble_eq_true rfl, Nat.le_of_ble_eq_true rfl, Nat.le_of_ble_eq_true rfl, rfl, ?_, ?_⟩
    · rintro E g2 ⟨rfl, rfl, hb⟩
      exact ⟨Nat.le_of_ble_eq_true rfl, Nat.le_of_ble_eq_true rfl, rfl, Or.inl ⟨rfl, hb⟩⟩
    rintro v g2 ⟨rfl, rfl, h1⟩ -
    refine ⟨_, _, _, hlt, rfl, _, _, _, hnt.1, rfl, ?_⟩
    refine bX9_line_16 hX hrm hGX hOk (la, nI nl) (by decide) _ _ _ _ _ ⟨Nat.le_of_ble_eq_true rfl, ⟨la, [], [5], _, rfl, hla⟩, Nat.le_of_ble_eq_true rfl, Nat.le_of_ble_eq_true rfl, Nat.le_of_ble_eq_true rfl, ⟨rfl, _, _, hla, rfl⟩, ?_⟩
    rintro v g3 ⟨rfl, rfl⟩ z hz
    cases hz
    have room : ∀ y : Int32, (y = 0 ∨ y = 1) → (y = 0 ↔ nl = 40) → pz_Z X 2 31 [(0, .inr (.inr (some (h)))), (1, .inl (x))] [.inl (y)] g3 1 6 := by
      intro y hy he
      refine bX9_line_31 hX hrm hGX hOk hT y (by decide) _ _ _ _ _ ⟨Nat.le_of_ble_eq_true rfl, Nat.le_of_ble_eq_true rfl, Nat.le_of_ble_eq_true rfl, Nat.le_of_ble_eq_true rfl, rfl, ?_, ?_⟩
      · rintro E g2 ⟨rfl, rfl, hb⟩
        exact ⟨Nat.le_of_ble_eq_true rfl, Nat.le_of_ble_eq_true rfl, rfl, Or.inr ⟨rfl, h1, he.mp hb⟩⟩
      rintro v g4 ⟨rfl, rfl, h2⟩ -
      have hl : nl < 40 := Nat.lt_of_le_of_ne hn40 (fun e => h2 (he.mpr e))
      refine ⟨_, _, _, hlt, rfl, _, _, _, hnt.1, rfl, Nat.le_of_ble_eq_true rfl, Nat.le_of_ble_eq_true rfl, [30, U], fun q hq => ⟨rfl, ?_⟩⟩
      refine bX9_line_46 hX hrm hGX hOk (q, U, x) (by decide) _ _ _ _ _ ⟨Nat.le_of_ble_eq_true rfl, ⟨q, [.inl (x)], rfl⟩, Nat.le_of_ble_eq_true rfl, Nat.le_of_ble_eq_true rfl, Nat.le_of_ble_eq_true rfl, ⟨rfl, up_at⟩, ?_⟩
      rintro v g5 ⟨rfl, h5, La, Ra, Rd, o5, r5⟩ -
      have t5 := hg_tr (hg_new (S := fun b => b = [30, U]) (v := some ([30, U], .inr (5, ln_df))) hg_rf hq) h5
      have hU : ∀ u, u < U → ∀ b, b = [30, U] → ∀ (x : Nat) (r : List Nat), b ≠ x :: u :: r := fun u hu b hb x r e => by
        rw [hb] at e
        injection e with _ e; injection e with e; omega
      have n5 := nlE_mono t5 (by simp) hU hnl
      obtain ⟨-, hls5, hL5, -⟩ := id n5
      have cell5 := o5.2.1.1
      refine bX9_line_49 hX hrm hGX hOk (la, ([5], [6]), nl, q, ([30, U], _), fun i => lr_h (L i)) (by decide) _ _ _ _ _ ⟨Nat.le_of_ble_eq_true rfl, ⟨la, [.inr (.inr (some (q)))], [5], _, rfl, t5 _ _ _ hla (by simp)⟩, Nat.le_of_ble_eq_true rfl, Nat.le_of_ble_eq_true rfl, Nat.le_of_ble_eq_true rfl, ⟨rfl, ⟨by omega, by decide, by decide, by decide, by simp, by simp⟩, hls5, cell5, fun i hi => ⟨_, _, (hL5 i hi).1.2.1.1, by simp⟩⟩, ?_⟩
      rintro v g6 ⟨rfl, h6, l6⟩ z hz -
      cases hz
      have n6 : ∀ b : List Nat, b ≠ [5] → b ≠ [6] → ¬ (b = [5] ∨ b = [6]) := fun b a1 a2 h => by rcases h with h | h; exact a1 h; exact a2 h
      have hnt6 := ntS_mono h6 ⟨n6 _ (by decide) (by decide), n6 _ (by decide) (by decide)⟩ (ntS_mono t5 (by simp) hnt)
      have hlt6 : ltS g6 h nt wy lv tx ne nz nw := h6 _ _ _ (t5 _ _ _ hlt (by simp)) (n6 _ (by decide) (by decide))
      obtain ⟨_, mc6, ed6, cap6, o6, hla6, _⟩ := id l6
      refine ⟨rfl, _, _, _, hlt6, rfl, _, _, _, hnt6.1, rfl, ?_⟩
      refine bX9_line_62 hX hR hrm hGX hOk (la, nI (nl + 1)) (by decide) _ _ _ _ _ ⟨Nat.le_of_ble_eq_true rfl, ⟨la, [], [5], _, rfl, hla6⟩, Nat.le_of_ble_eq_true rfl, Nat.le_of_ble_eq_true rfl, Nat.le_of_ble_eq_true rfl, ⟨rfl, _, _, hla6, rfl⟩, ?_⟩
      rintro v g7 ⟨rfl, rfl⟩ z hz
      cases hz
      refine ⟨Nat.le_of_ble_eq_true rfl, Nat.le_of_ble_eq_true rfl, h1, hl, ?_, ?_, q, La, Ra, Rd, by omega, ?_, fun i hi => ?_, fun i j hi hj e => ?_⟩
      · rw [nI_pred]
      · exact hg_tr (hg_mono t5 (fun b hb => Or.inl hb)) (hg_mono h6 (fun b hb => Or.inr hb))
      · have : (fun i => if i = nl then q else lr_h (L i)) = fun i => lr_h (if i = nl then lr_z U q La Ra Rd x (fun _ => 0) (fun _ => 0) (fun _ => 0) else L i) := by
          funext i
          by_cases him : i = nl
          · rw [if_pos him, if_pos him]; rfl
          · rw [if_neg him, if_neg him]
        rw [this] at l6
        exact l6
      · by_cases him : i = nl
        · subst him
          dsimp only
          rw [if_pos rfl]
          exact ⟨lrOK_mono h6 _ ⟨⟨n6 _ (by simp) (by simp), n6 _ (by simp) (by simp), n6 _ (by simp) (by simp), n6 _ (by simp) (by simp), n6 _ (by simp) (by simp), n6 _ (by simp) (by simp)⟩, fun d => n6 _ (by simp) (by simp), n6 _ (by simp) (by simp)⟩ o5, ⟨_, _, _, lrT_mono h6 _ ⟨n6 _ (by simp) (by simp), fun i => n6 _ (by simp) (by simp), fun i => n6 _ (by simp) (by simp), n6 _ (by simp) (by simp)⟩ r5⟩, Nat.lt_succ_self _⟩
        · dsimp only
          rw [if_neg him]
          obtain ⟨a1, ⟨rn, A, B, a2⟩, a3⟩ := hL5 i (by omega)
          exact ⟨lrOK_mono h6 _ ⟨⟨n6 _ (by simp) (by simp), n6 _ (by simp) (by simp), n6 _ (by simp) (by simp), n6 _ (by simp) (by simp), n6 _ (by simp) (by simp), n6 _ (by simp) (by simp)⟩, fun d => n6 _ (by simp) (by simp), n6 _ (by simp) (by simp)⟩ a1, ⟨_, _, _, lrT_mono h6 _ ⟨n6 _ (by simp) (by simp), fun i => n6 _ (by simp) (by simp), fun i => n6 _ (by simp) (by simp), n6 _ (by simp) (by simp)⟩ a2⟩, by omega⟩
      · dsimp only at e
        by_cases him : i = nl <;> by_cases hjm : j = nl
        · omega
        · rw [if_pos him, if_neg hjm] at e
          have := (hL5 j (by omega)).2.2
          have e' : U = lr_u (L j) := e
          omega
        · rw [if_neg him, if_pos hjm] at e
          have := (hL5 i (by omega)).2.2
          have e' : lr_u (L i) = U := e
          omega
        · rw [if_neg him, if_neg hjm] at e
          exact hinj i j (by omega) (by omega) e
    refine ⟨fun q => ?_, fun q => ?_⟩
    · refine bX9_line_30 hX _ _ _ _ _ (room 0 (Or.inl rfl) ⟨fun _ => ?_, fun _ => rfl⟩)
      have := (ni_le (a := 40) (by omega) (by omega)).mp q
      omega
    · refine bX9_line_26 hX _ _ _ _ _ (room 1 (Or.inr rfl) ⟨fun e => absurd e (by decide), fun e => absurd ?_ q⟩)
      rw [e]; decide
