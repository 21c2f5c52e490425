/-! LineTimes: change -/
set_option maxRecDepth 20000 in
theorem bX9_change_0 {X : pz_C} (hX : pz_X X cX9_change 8 RX9) : ∀ lv st g c s, (zo_il 1 1 (zo_al 1 0 (zo_get 11 0 (zo_get 6 0 (pz_Z X 8))))) 0 lv st g c s → pz_Z X 8 0 lv st g c s := (zs_iload_n hX dX9_change_0 rfl (zs_aload_n hX dX9_change_1 rfl (zs_get hX (C := RX9) (T := TX9) (N := 7) rfl in_X9 (by decide) mw_a7a80db5 dX9_change_2 (zs_get hX (C := RX4) (T := TX4) (N := 5) rfl in_X4 (by decide) mw_2e6b86cc dX9_change_5 (fun _ _ _ _ _ h => h)))))
set_option maxRecDepth 20000 in
theorem bX9_change_8 {X : pz_C} {G : pz_Gx} {sa md mi : Nat} {rm : Room} (hX : pz_X X cX9_change 8 RX9) (hrm : pz_rm X = rm) (hGX : pz_GX X G) (hOk : pz_O3 G sa md mi) (gh : gt_Jx4a65c_size_8abf5) (hr_Jx4a65c_size_8abf5 : rm_Jx4a65c_size_8abf5.frames + 1 ≤ rm.frames ∧ 8 + (1 + 11) + rm_Jx4a65c_size_8abf5.locals ≤ rm.locals) : ∀ lv st g c s, (zo_cV rm 1 0 5 rm_Jx4a65c_size_8abf5.cells rm_Jx4a65c_size_8abf5.slots (pr_Jx4a65c_size_8abf5 gh) (po_Jx4a65c_size_8abf5 gh) (zo_ki (pz_Z X 8))) 8 lv st g c s → pz_Z X 8 8 lv st g c s := by
  subst hrm
  exact (zs_csF hX hGX (C := RJx4a65c) (T := TJx4a65c) (N := 3) rfl (ct_Jx4a65c_size_8abf5 hOk.1.1 gh) (hOk.1.1.2.1) mw_54f589cd mw_e0c83bb7 mw_8c7bf081 mw_dd3bf01c mw_d1eac4b0 (by decide +kernel) hr_Jx4a65c_size_8abf5 dX9_change_8 (zs_ki (fun _ _ _ _ _ h => h)))
set_option maxRecDepth 20000 in
theorem bX9_change_13 {X : pz_C} {G : pz_Gx} {sa md mi : Nat} {PX : String → pz_H → Prop} {rm : Room} (hX : pz_X X cX9_change 8 RX9) (hrm : pz_rm X = rm) (hGX : pz_GX X G) (hOk : pz_O3 G sa md mi) (hT : pz_Te X 8 rm PX) (gh : gt_X9_requireIndex) (hr_X9_requireIndex : rm_X9_requireIndex.frames + 1 ≤ rm.frames ∧ 8 + (2 + 11) + rm_X9_requireIndex.locals ≤ rm.locals) : ∀ lv st g c s, (zo_csX rm 2 3 rm_X9_requireIndex.cells rm_X9_requireIndex.slots (pr_X9_requireIndex gh) (po_X9_requireIndex gh) (px_X9_requireIndex gh) (zo_te rm PX) (zo_kv (zo_al 1 0 (zo_get 11 0 (zo_get 6 0 (zo_il 1 1 (pz_Z X 8))))))) 13 lv st g c s → pz_Z X 8 13 lv st g c s := by
  subst hrm
  exact (zs_csSX hX hGX (ct_X9_requireIndex hOk gh) mw_4ee6c08a mw_6fa824eb mw_8bb91264 mw_b75cb11b (by decide +kernel) hr_X9_requireIndex dX9_change_13 (zs_te hT) (zs_kv (zs_aload_n hX dX9_change_16 rfl (zs_get hX (C := RX9) (T := TX9) (N := 7) rfl in_X9 (by decide) mw_a7a80db5 dX9_change_17 (zs_get hX (C := RX4) (T := TX4) (N := 5) rfl in_X4 (by decide) mw_2e6b86cc dX9_change_20 (zs_iload_n hX dX9_change_23 rfl (fun _ _ _ _ _ h => h)))))))
set_option maxRecDepth 20000 in
theorem bX9_change_24 {X : pz_C} {G : pz_Gx} {sa md mi : Nat} {rm : Room} (hX : pz_X X cX9_change 8 RX9) (hrm : pz_rm X = rm) (hGX : pz_GX X G) (hOk : pz_O3 G sa md mi) (gh : gt_Jx4a65c_get_915e3) (hr_Jx4a65c_get_915e3 : rm_Jx4a65c_get_915e3.frames + 1 ≤ rm.frames ∧ 8 + (2 + 11) + rm_Jx4a65c_get_915e3.locals ≤ rm.locals) : ∀ lv st g c s, (zo_cV rm 1 1 5 rm_Jx4a65c_get_915e3.cells rm_Jx4a65c_get_915e3.slots (pr_Jx4a65c_get_915e3 gh) (po_Jx4a65c_get_915e3 gh) (zo_kr (zo_cast1 5 (zo_as 2 7 (zo_il 1 2 (zo_al 2 7 (zo_get 5 4 (pz_Z X 8)))))))) 24 lv st g c s → pz_Z X 8 24 lv st g c s := by
  subst hrm
  exact (zs_csF hX hGX (C := RJx4a65c) (T := TJx4a65c) (N := 3) rfl (ct_Jx4a65c_get_915e3 hOk.1.1 gh) (hOk.1.1.2.2.1) mw_fdee3bb6 mw_50a82afc mw_e81a0f1b mw_dd3bf01c mw_817361af (by decide +kernel) hr_Jx4a65c_get_915e3 dX9_change_24 (zs_kr (by first | exact Or.inl ⟨_, rfl⟩ | exact Or.inr ⟨_, rfl⟩) (zs_cast1 hX (C := RX3) (T := TX3) (N := 11) rfl mw_78b2f1f9 dX9_change_29 (zs_astore hX dX9_change_32 (by decide) (zs_iload_n hX dX9_change_34 rfl (zs_aload hX dX9_change_35 (zs_get hX (C := RX3) (T := TX3) (N := 11) rfl in_X3 (by decide) mw_786d26fa dX9_change_37 (fun _ _ _ _ _ h => h))))))))
set_option maxRecDepth 20000 in
theorem bX9_change_40 {X : pz_C} {G : pz_Gx} {sa md mi : Nat} {PX : String → pz_H → Prop} {rm : Room} (hX : pz_X X cX9_change 8 RX9) (hrm : pz_rm X = rm) (hGX : pz_GX X G) (hOk : pz_O3 G sa md mi) (hT : pz_Te X 8 rm PX) (gh : gt_X9_requireIndex) (hr_X9_requireIndex : rm_X9_requireIndex.frames + 1 ≤ rm.frames ∧ 8 + (2 + 11) + rm_X9_requireIndex.locals ≤ rm.locals) : ∀ lv st g c s, (zo_csX rm 2 3 rm_X9_requireIndex.cells rm_X9_requireIndex.slots (pr_X9_requireIndex gh) (po_X9_requireIndex gh) (px_X9_requireIndex gh) (zo_te rm PX) (zo_kv (zo_ll 1 3 (zo_lc 1 (0) (zo_lc 3 (100000) (pz_Z X 8)))))) 40 lv st g c s → pz_Z X 8 40 lv st g c s := by
  subst hrm
  exact (zs_csSX hX hGX (ct_X9_requireIndex hOk gh) mw_4ee6c08a mw_6fa824eb mw_8bb91264 mw_b75cb11b (by decide +kernel) hr_X9_requireIndex dX9_change_40 (zs_te hT) (zs_kv (zs_lload_n hX dX9_change_43 rfl (zs_lconst hX dX9_change_44 (by decide) (zs_ldc2 hX dX9_change_45 mw_b5038bfd (fun _ _ _ _ _ h => h))))))
set_option maxRecDepth 20000 in
theorem bX9_change_48 {X : pz_C} {G : pz_Gx} {sa md mi : Nat} {PX : String → pz_H → Prop} {rm : Room} (hX : pz_X X cX9_change 8 RX9) (hrm : pz_rm X = rm) (hGX : pz_GX X G) (hOk : pz_O3 G sa md mi) (hT : pz_Te X 8 rm PX) (gh : gt_X9_requireRange) (hr_X9_requireRange : rm_X9_requireRange.frames + 1 ≤ rm.frames ∧ 8 + (6 + 11) + rm_X9_requireRange.locals ≤ rm.locals) : ∀ lv st g c s, (zo_csX rm 3 3 rm_X9_requireRange.cells rm_X9_requireRange.slots (pr_X9_requireRange gh) (po_X9_requireRange gh) (px_X9_requireRange gh) (zo_te rm PX) (zo_kv (zo_ll 2 5 (zo_lc 1 (0) (zo_lc 3 (20000) (pz_Z X 8)))))) 48 lv st g c s → pz_Z X 8 48 lv st g c s := by
  subst hrm
  exact (zs_csSX hX hGX (ct_X9_requireRange hOk gh) mw_6378151b mw_14fb916b mw_8bb91264 mw_a40b3fa2 (by decide +kernel) hr_X9_requireRange dX9_change_48 (zs_te hT) (zs_kv (zs_lload hX dX9_change_51 (zs_lconst hX dX9_change_53 (by decide) (zs_ldc2 hX dX9_change_54 mw_7e3dc81f (fun _ _ _ _ _ h => h))))))
set_option maxRecDepth 20000 in
theorem bX9_change_57 {X : pz_C} {G : pz_Gx} {sa md mi : Nat} {PX : String → pz_H → Prop} {rm : Room} (hX : pz_X X cX9_change 8 RX9) (hrm : pz_rm X = rm) (hGX : pz_GX X G) (hOk : pz_O3 G sa md mi) (hT : pz_Te X 8 rm PX) (gh : gt_X9_requireRange) (hr_X9_requireRange : rm_X9_requireRange.frames + 1 ≤ rm.frames ∧ 8 + (6 + 11) + rm_X9_requireRange.locals ≤ rm.locals) : ∀ lv st g c s, (zo_csX rm 3 3 rm_X9_requireRange.cells rm_X9_requireRange.slots (pr_X9_requireRange gh) (po_X9_requireRange gh) (px_X9_requireRange gh) (zo_te rm PX) (zo_kv (zo_al 1 0 (zo_get 11 6 (zo_ic 2 (100) (zo_ic_ge 73 (pz_Z X 8))))))) 57 lv st g c s → pz_Z X 8 57 lv st g c s := by
  subst hrm
  exact (zs_csSX hX hGX (ct_X9_requireRange hOk gh) mw_6378151b mw_14fb916b mw_8bb91264 mw_a40b3fa2 (by decide +kernel) hr_X9_requireRange dX9_change_57 (zs_te hT) (zs_kv (zs_aload_n hX dX9_change_60 rfl (zs_get hX (C := RX9) (T := TX9) (N := 7) rfl in_X9 (by decide) mw_e071b01e dX9_change_61 (zs_bipush hX dX9_change_64 (by decide) (zs_ic_ge hX dX9_change_66 (by decide) (fun _ _ _ _ _ _ h => h)))))))
set_option maxRecDepth 20000 in
theorem bX9_change_69 {X : pz_C} (hX : pz_X X cX9_change 8 RX9) : ∀ lv st g c s, (zo_ic 1 (1) (zo_goto 74 (pz_Z X 8))) 69 lv st g c s → pz_Z X 8 69 lv st g c s := (zs_iconst hX dX9_change_69 (by decide) (zs_goto hX dX9_change_70 (by decide) (fun _ _ _ _ _ _ h => h)))
set_option maxRecDepth 20000 in
theorem bX9_change_73 {X : pz_C} (hX : pz_X X cX9_change 8 RX9) : ∀ lv st g c s, (zo_ic 1 (0) (pz_Z X 8)) 73 lv st g c s → pz_Z X 8 73 lv st g c s := (zs_iconst hX dX9_change_73 (by decide) (fun _ _ _ _ _ h => h))
set_option maxRecDepth 20000 in
theorem bX9_change_74 {X : pz_C} {G : pz_Gx} {sa md mi : Nat} {PX : String → pz_H → Prop} {rm : Room} (hX : pz_X X cX9_change 8 RX9) (hrm : pz_rm X = rm) (hGX : pz_GX X G) (hOk : pz_O3 G sa md mi) (hT : pz_Te X 8 rm PX) (gh : gt_X9_requireRoom) (hr_X9_requireRoom : rm_X9_requireRoom.frames + 1 ≤ rm.frames ∧ 8 + (1 + 11) + rm_X9_requireRoom.locals ≤ rm.locals) : ∀ lv st g c s, (zo_csX rm 1 3 rm_X9_requireRoom.cells rm_X9_requireRoom.slots (pr_X9_requireRoom gh) (po_X9_requireRoom gh) (px_X9_requireRoom gh) (zo_te rm PX) (zo_kv (zo_al 2 7 (zo_new rm 3 4 [.inl 0, .inl 0, .inl 0, .inr (.inr none)] (zo_dup (zo_il 1 2 (zo_ll 1 3 (zo_l2i (zo_ll 2 5 (zo_l2i (zo_al 2 7 (zo_get 5 6 (pz_Z X 8))))))))))))) 74 lv st g c s → pz_Z X 8 74 lv st g c s := by
  subst hrm
  exact (zs_csSX hX hGX (ct_X9_requireRoom hOk gh) mw_beef0b16 mw_3412a6f2 mw_8bb91264 mw_389c92d4 (by decide +kernel) hr_X9_requireRoom dX9_change_74 (zs_te hT) (zs_kv (zs_aload hX dX9_change_77 (zs_new hX (C := RX1) (T := TX1) rfl in_X1 tyX1 tyX1_ok mw_d1d75bf0 mw_aa9f3754 mw_4bb6cc20 (fun j hj => by rcases (show j = 0 ∨ j = 1 ∨ j = 2 ∨ j = 3 by omega) with rfl | rfl | rfl | rfl <;> rfl) dX9_change_79 (zs_dup hX dX9_change_82 (zs_iload_n hX dX9_change_83 rfl (zs_lload_n hX dX9_change_84 rfl (zs_l2i hX dX9_change_85 (zs_lload hX dX9_change_86 (zs_l2i hX dX9_change_88 (zs_aload hX dX9_change_89 (zs_get hX (C := RX3) (T := TX3) (N := 11) rfl in_X3 (by decide) mw_1fb0fa66 dX9_change_91 (fun _ _ _ _ _ h => h)))))))))))))
set_option maxRecDepth 20000 in
theorem bX9_change_94 {X : pz_C} {G : pz_Gx} {sa md mi : Nat} {rm : Room} {E : Option pz_V → pz_H → Prop} (hX : pz_X X cX9_change 8 RX9) (hR : pz_Rt X cX9_change 8 (some .int) rm E) (hrm : pz_rm X = rm) (hGX : pz_GX X G) (hOk : pz_O3 G sa md mi) (gh : gt_X1_init) (hr_X1_init : rm_X1_init.frames + 1 ≤ rm.frames ∧ 8 + (5 + 11) + rm_X1_init.locals ≤ rm.locals) : ∀ lv st g c s, (zo_cI rm 4 3 rm_X1_init.cells rm_X1_init.slots (pr_X1_init gh) (po_X1_init gh) (zo_kv (zo_putr 5 6 (zo_al 1 0 (zo_dup (zo_get 11 6 (zo_ic 1 (1) (zo_iadd (zo_puti 11 6 (zo_al 1 0 (zo_get 11 6 (zo_ri rm E)))))))))))) 94 lv st g c s → pz_Z X 8 94 lv st g c s := by
  subst hrm
  exact (zs_csI hX hGX (ct_X1_init hOk.1.1 gh) mw_e7ec72b4 mw_af3db68f mw_4bb6cc20 mw_aed3c867 rfl (by decide +kernel) hr_X1_init dX9_change_94 (zs_kv (zs_putr hX (C := RX3) (T := TX3) (N := 11) rfl in_X3 (by decide) mw_1fb0fa66 tyX3 tyX3_ok nmX3 (ty := (.object "LineTimes$LateWord")) (by decide +kernel) rfl rfl dX9_change_97 (zs_aload_n hX dX9_change_100 rfl (zs_dup hX dX9_change_101 (zs_get hX (C := RX9) (T := TX9) (N := 7) rfl in_X9 (by decide) mw_e071b01e dX9_change_102 (zs_iconst hX dX9_change_105 (by decide) (zs_iadd hX dX9_change_106 (zs_puti hX (C := RX9) (T := TX9) (N := 7) rfl in_X9 (by decide) mw_e071b01e tyX9 tyX9_ok nmX9 (by decide +kernel) rfl dX9_change_107 (zs_aload_n hX dX9_change_110 rfl (zs_get hX (C := RX9) (T := TX9) (N := 7) rfl in_X9 (by decide) mw_e071b01e dX9_change_111 (zs_ri hR dX9_change_114))))))))))))
def rm_X9_change : Room := { frames := 7, cells := 6, slots := 34, locals := 120 }
abbrev gt_X9_change : Type := (Nat × Int32 × Int32 × Int64 × Int64) × (Nat × Nat × Nat × Nat) × (Nat × Nat × Nat) × (Nat × Nat × Nat × Nat × Int32 × (Nat → Nat)) × (Nat × (Nat → lr_T) × Nat)
def pr_X9_change (sa : Nat) : gt_X9_change → List pz_V → pz_H → Prop := fun ((h, x, p, a, b), (nt, wy, lv, tx), (ne, nz, nw), (la, pa, na, so, fd, Wa), (nl, L, U)) av g => av = [.inr (.inr (some (h))), .inl (x), .inl (p), .inr (.inl (a)), .inr (.inl (b))] ∧ nw ≤ 100 ∧ ltS g h nt wy lv tx ne nz nw ∧ ntS g nt la pa na so fd Wa ∧ nlE g la sa nl L U
def coI (nl : Nat) (L : Nat → lr_T) (x p : Int32) : Prop := bdI x (nI nl) ∨ ∃ k, k < nl ∧ x = nI k ∧ bdI p (nI (lr_n (L k)))
def coR (a b : Int64) : Prop := bdR a 0 100000 ∨ bdR b 0 20000
def po_X9_change (sa : Nat) : gt_X9_change → List pz_V → pz_H → Option pz_V → pz_H → Prop := fun ((h, x, p, a, b), (nt, wy, lv, tx), (ne, nz, nw), (la, pa, na, so, fd, Wa), (nl, L, U)) _ g v g' => ¬ coI nl L x p ∧ ¬ coR a b ∧ nw < 100 ∧ ∃ k s B D, k < nl ∧ x = nI k ∧ s < lr_n (L k) ∧ p = nI s ∧ B ≤ 100000 ∧ a = lN B ∧ D ≤ 20000 ∧ b = lN D ∧ v = some (.inl (nI (nw + 1))) ∧ hg (fun b => b = [0] ∨ b = [30, lr_u (L k)]) g g' ∧ ltS g' h nt wy lv tx ne nz (nw + 1) ∧ ∃ q, nlE g' la sa nl (fun i => if i = k then lr_lw q (nI s, nI B, nI D) (L i) else L i) U
def px_X9_change : gt_X9_change → List pz_V → pz_H → String → pz_H → Prop := fun ((h, x, p, a, b), _, (_, _, nw), _, (nl, L, _)) _ g E g' => g' = g ∧ ((E = nIOB ∧ coI nl L x p) ∨ (E = nIAE ∧ ¬ coI nl L x p ∧ coR a b) ∨ (E = nUOE ∧ ¬ coI nl L x p ∧ ¬ coR a b ∧ nw = 100))
set_option maxRecDepth 20000 in
set_option maxHeartbeats 4000000 in
theorem ct_X9_change {G : pz_Gx} {sa md mi : Nat} (hOk : pz_O3 G sa md mi) (gh : gt_X9_change) : pz_MX G yX9_change cX9_change 8 (some .int) rm_X9_change (pr_X9_change sa gh) (po_X9_change sa gh) (px_X9_change gh) := by
  obtain ⟨⟨h, x, p, a, b⟩, ⟨nt, wy, lv, tx⟩, ⟨ne, nz, nw⟩, ⟨la, pa, na, so, fd, Wa⟩, nl, L, U⟩ := gh
  refine pz_ofZX (by decide) hOk.1.1.1 (Or.inr (Or.inl rfl)) ?_ ?_
  · rintro av g ⟨rfl, -⟩
    exact Nat.le_of_ble_eq_true rfl
  · rintro X hX hGX hrm av g ⟨rfl, hnw, hlt, hnt, hnl⟩ hR hT -
    obtain ⟨hn40, hls, hL, hinj⟩ := id hnl
    obtain ⟨h41, mc, ed, cap, o, hla, hc⟩ := id hls
    refine bX9_change_0 hX _ _ _ _ _ ⟨_, _, _, hlt, rfl, _, _, _, hnt.1, rfl, ?_⟩
    refine bX9_change_8 hX hrm hGX hOk (la, nI nl) (by decide) _ _ _ _ _ ⟨Nat.le_of_ble_eq_true rfl, ⟨la, [], [5], _, rfl, hla⟩, Nat.le_of_ble_eq_true rfl, Nat.le_of_ble_eq_true rfl, Nat.le_of_ble_eq_true rfl, ⟨rfl, _, _, hla, rfl⟩, ?_⟩
    rintro v g2 ⟨rfl, rfl⟩ z hz
    cases hz
    refine bX9_change_13 hX hrm hGX hOk hT (x, nI nl) (by decide) _ _ _ _ _ ⟨Nat.le_of_ble_eq_true rfl, Nat.le_of_ble_eq_true rfl, Nat.le_of_ble_eq_true rfl, Nat.le_of_ble_eq_true rfl, rfl, ?_, ?_⟩
    · rintro E g2 ⟨rfl, rfl, hb⟩
      exact ⟨Nat.le_of_ble_eq_true rfl, Nat.le_of_ble_eq_true rfl, rfl, Or.inl ⟨rfl, Or.inl hb⟩⟩
    rintro v g3 ⟨rfl, rfl, h1⟩ -
    obtain ⟨k, hk, rfl⟩ := bI_nI (b := nl) (by omega) h1
    refine ⟨_, _, _, hlt, rfl, _, _, _, hnt.1, rfl, ?_⟩
    refine bX9_change_24 hX hrm hGX hOk (la, k, [5], [6], nl, fun i => lr_h (L i)) (by decide) _ _ _ _ _ ⟨Nat.le_of_ble_eq_true rfl, ⟨la, [.inl (nI k)], [5], _, rfl, hla⟩, Nat.le_of_ble_eq_true rfl, Nat.le_of_ble_eq_true rfl, Nat.le_of_ble_eq_true rfl, ⟨rfl, hk, lsE_S hls⟩, ?_⟩
    rintro v g7 ⟨rfl, rfl⟩ z hz
    cases hz
    obtain ⟨hok, ⟨rn, At, Bt, htk⟩, huk⟩ := hL k hk
    rcases hLk : L k with ⟨⟨u, hq⟩, ⟨La, Ra, Rd⟩, ⟨wd, n, dw, lw⟩, ⟨f1, f2, f3⟩, dl, ll⟩
    rw [hLk] at hok htk
    obtain ⟨o1, o2, o3, o4, o5, o6, o7⟩ := id hok
    obtain ⟨c0, c1, c2, c3, ⟨q8, c8, d8⟩, q9, c9, d9⟩ := id o2
    have eh : lr_h (L k) = hq := by rw [hLk]
    have en : lr_n (L k) = n := by rw [hLk]
    have eu : lr_u (L k) = u := by rw [hLk]
    have c0' := c0
    rw [← eh] at c0'
    refine ⟨_, _, c0', _, _, _, c0', rfl, ?_⟩
    show pz_Z X 8 40 [(7, .inr (.inr (some (lr_h (L k))))), (0, .inr (.inr (some (h)))), (1, .inl (nI k)), (2, .inl (p)), (3, .inr (.inl (a))), (5, .inr (.inl (b)))] [.inl (nI n), .inl (p)] g7 1 6
    rw [eh]
    refine bX9_change_40 hX hrm hGX hOk hT (p, nI n) (by decide) _ _ _ _ _ ⟨Nat.le_of_ble_eq_true rfl, Nat.le_of_ble_eq_true rfl, Nat.le_of_ble_eq_true rfl, Nat.le_of_ble_eq_true rfl, rfl, ?_, ?_⟩
    · rintro E g2 ⟨rfl, rfl, hb⟩
      exact ⟨Nat.le_of_ble_eq_true rfl, Nat.le_of_ble_eq_true rfl, rfl, Or.inl ⟨rfl, Or.inr ⟨k, hk, rfl, by rw [en]; exact hb⟩⟩⟩
    rintro v g4 ⟨rfl, rfl, h2⟩ -
    have hI : ¬ coI nl L (nI k) p := fun e => by
      rcases e with e | ⟨k', hk', e1, e2⟩
      · exact h1 e
      · have := ni_inj (by omega) (by omega) e1
        subst this
        rw [en] at e2
        exact h2 e2
    refine bX9_change_48 hX hrm hGX hOk hT (a, 0, 100000) (by decide) _ _ _ _ _ ⟨Nat.le_of_ble_eq_true rfl, Nat.le_of_ble_eq_true rfl, Nat.le_of_ble_eq_true rfl, Nat.le_of_ble_eq_true rfl, rfl, ?_, ?_⟩
    · rintro E g2 ⟨rfl, rfl, hb⟩
      exact ⟨Nat.le_of_ble_eq_true rfl, Nat.le_of_ble_eq_true rfl, rfl, Or.inr (Or.inl ⟨rfl, hI, Or.inl hb⟩)⟩
    rintro v g5 ⟨rfl, rfl, h3⟩ -
    refine bX9_change_57 hX hrm hGX hOk hT (b, 0, 20000) (by decide) _ _ _ _ _ ⟨Nat.le_of_ble_eq_true rfl, Nat.le_of_ble_eq_true rfl, Nat.le_of_ble_eq_true rfl, Nat.le_of_ble_eq_true rfl, rfl, ?_, ?_⟩
    · rintro E g2 ⟨rfl, rfl, hb⟩
      exact ⟨Nat.le_of_ble_eq_true rfl, Nat.le_of_ble_eq_true rfl, rfl, Or.inr (Or.inl ⟨rfl, hI, Or.inr hb⟩)⟩
    rintro v g6 ⟨rfl, rfl, h4⟩ -
    have hRg : ¬ coR a b := fun e => by rcases e with e | e; exact h3 e; exact h4 e
    obtain ⟨P, hP, rfl⟩ := bI_nI (b := n) (by omega) h2
    obtain ⟨B, hB, rfl⟩ := bR_nI (b := 100000) (by omega) h3
    obtain ⟨D, hD, rfl⟩ := bR_nI (b := 20000) (by omega) h4
    have room : ∀ y : Int32, (y = 0 ∨ y = 1) → (y = 0 ↔ nw = 100) → pz_Z X 8 74 [(7, .inr (.inr (some (hq)))), (0, .inr (.inr (some (h)))), (1, .inl (nI k)), (2, .inl (nI P)), (3, .inr (.inl (lN B))), (5, .inr (.inl (lN D)))] [.inl (y)] g6 4 24 := by
      intro y hy he
      refine bX9_change_74 hX hrm hGX hOk hT y (by decide) _ _ _ _ _ ⟨Nat.le_of_ble_eq_true rfl, Nat.le_of_ble_eq_true rfl, Nat.le_of_ble_eq_true rfl, Nat.le_of_ble_eq_true rfl, rfl, ?_, ?_⟩
      · rintro E g2 ⟨rfl, rfl, hb⟩
        exact ⟨Nat.le_of_ble_eq_true rfl, Nat.le_of_ble_eq_true rfl, rfl, Or.inr (Or.inr ⟨rfl, hI, hRg, he.mp hb⟩)⟩
      rintro v g8 ⟨rfl, rfl, h5⟩ -
      have hl : nw < 100 := Nat.lt_of_le_of_ne hnw (fun e => h5 (he.mpr e))
      refine ⟨Nat.le_of_ble_eq_true rfl, Nat.le_of_ble_eq_true rfl, [41, u], fun q hq0 => ?_⟩
      have t1 : hg (fun _ => False) g8 (va_up g8 q (some ([41, u], .inr (3, [.inl 0, .inl 0, .inl 0, .inr (.inr none)])))) := hg_new hg_rf hq0
      have c0n := t1 _ _ _ c0 (fun e => e)
      refine ⟨rfl, _, _, _, c0n, rfl, ?_⟩
      show pz_Z X 8 94 [(7, .inr (.inr (some (hq)))), (0, .inr (.inr (some (h)))), (1, .inl (nI k)), (2, .inl (nI P)), (3, .inr (.inl (lN B))), (5, .inr (.inl (lN D)))] [.inr (.inr lw), .inl ((lN D).toInt32), .inl ((lN B).toInt32), .inl (nI P), .inr (.inr (some (q))), .inr (.inr (some (q))), .inr (.inr (some (hq)))] _ 6 34
      rw [lN_i, lN_i]
      refine bX9_change_94 hX hR hrm hGX hOk (q, [41, u], (nI P, nI B, nI D), lw) (by decide) _ _ _ _ _ ⟨Nat.le_of_ble_eq_true rfl, ⟨q, [.inl (nI P), .inl (nI B), .inl (nI D), .inr (.inr lw)], rfl⟩, Nat.le_of_ble_eq_true rfl, Nat.le_of_ble_eq_true rfl, Nat.le_of_ble_eq_true rfl, ⟨rfl, up_at⟩, ?_⟩
      rintro v g9 ⟨rfl, e9⟩ -
      have t2 : hg (fun b => b = [0] ∨ b = [30, u]) g8 g9 := by
        rw [e9, up_up]
        exact hg_new hg_rf hq0
      have cq : g9 q = some ([41, u], .inr (3, [.inl (nI P), .inl (nI B), .inl (nI D), .inr (.inr lw)])) := by rw [e9]; exact up_at
      have t2' : hg (fun _ => False) g8 g9 := by
        rw [e9, up_up]
        exact hg_new hg_rf hq0
      have c0m := t2' _ _ _ c0 (fun e => e)
      have hltm : ltS g9 h nt wy lv tx ne nz nw := t2' _ _ _ hlt (fun e => e)
      clear e9
      refine ⟨_, _, c0m, Nat.le_of_ble_eq_true rfl, ?_⟩
      generalize hg10 : va_up g9 hq (some ([30, u], .inr (5, List.set (ln_fs wd (La 1) (La 2) (La 3) n dw lw (La 7) (La 8) (La 9) (La 10)) 6 (.inr (.inr (some (q))))))) = g10
      have t3 : hg (fun b => b = [30, u]) g9 g10 := by rw [← hg10]; exact hg_up hg_rf c0m rfl
      have ch : g10 hq = some ([30, u], .inr (5, ln_fs wd (La 1) (La 2) (La 3) n dw (some q) (La 7) (La 8) (La 9) (La 10))) := by rw [← hg10]; exact up_at
      have hlt10 : ltS g10 h nt wy lv tx ne nz nw := t3 _ _ _ hltm (by simp)
      clear hg10
      refine ⟨rfl, _, _, _, hlt10, rfl, _, _, hlt10, Nat.le_of_ble_eq_true rfl, _, _, _, up_at, rfl, ?_⟩
      show _ ∧ _ ∧ _
      generalize hg11 : va_up g10 h _ = g11
      have t4 : hg (fun b => b = [0]) g10 g11 := by rw [← hg11]; exact hg_up hg_rf hlt10 rfl
      have hlt11 : ltS g11 h nt wy lv tx ne nz (nw + 1) := by
        rw [← hg11]
        unfold ltS
        rw [← nI_1]
        exact up_at
      clear hg11
      have T : hg (fun b => b = [0] ∨ b = [30, u]) g8 g11 := hg_tr t2 (hg_tr (hg_mono t3 (fun b hb => Or.inr hb)) (hg_mono t4 (fun b hb => Or.inl hb)))
      have ch11 := t4 _ _ _ ch (by simp)
      have cq11 := t4 _ _ _ (t3 _ _ _ cq (by simp)) (by simp)
      refine ⟨Nat.le_of_ble_eq_true rfl, Nat.le_of_ble_eq_true rfl, hI, hRg, hl, k, P, B, D, hk, rfl, by omega, rfl, hB, rfl, hD, rfl, by rw [← nI_1], hg_mono T (fun b hb => by rw [eu]; exact hb), hlt11, some q, ?_⟩
      refine nlE_up T (by simp) hk (fun x u' r e => ?_) hnl (lr_lw (some q) (nI P, nI B, nI D)) ?_ ?_ ?_
      · rw [eu]; simp at e; exact e.2.1
      · rw [hLk]; exact ⟨rfl, rfl⟩
      · rw [hLk]
        refine ⟨o1, ⟨ch11, T _ _ _ c1 (by simp), T _ _ _ c2 (by simp), T _ _ _ c3 (by simp), ⟨q8, T _ _ _ c8 (by simp), d8⟩, q9, T _ _ _ c9 (by simp), d9⟩, dw_mono T (by simp) _ _ o3, o4, ⟨q, lw, rfl, cq11, lt_mono T (by simp) _ _ o5⟩, fun z hz => ?_, o7⟩
        rcases List.mem_cons.mp hz with e | e
        · exact ⟨P, by omega, by rw [e]⟩
        · exact o6 z e
      · rw [hLk]
        refine ⟨rn, At, Bt, ?_⟩
        have := lrT_mono T _ (by simp) htk
        exact this
    refine ⟨_, _, _, hlt, rfl, fun q => ?_, fun q => ?_⟩
    · refine bX9_change_73 hX _ _ _ _ _ (room 0 (Or.inl rfl) ⟨fun _ => ?_, fun _ => rfl⟩)
      have := (ni_le (a := 100) (by omega) (by omega)).mp q
      omega
    · refine bX9_change_69 hX _ _ _ _ _ (room 1 (Or.inr rfl) ⟨fun e => absurd e (by decide), fun e => absurd ?_ q⟩)
      rw [e]; decide
