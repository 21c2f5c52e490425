/-! LineTimes: exception -/
theorem dw_put_s {d x y : Int32} {l : List (Int32 × Int32)} (h : dw_get l d = some y) : dw_put d x l = dw_set d x l := by
  unfold dw_put; rw [h]
theorem dw_put_n {d x : Int32} {l : List (Int32 × Int32)} (h : dw_get l d = none) : dw_put d x l = (d, x) :: l := by
  unfold dw_put; rw [h]
theorem dw_put01 {d x : Int32} {l : List (Int32 × Int32)} (hx : x = 0 ∨ x = 1) (h : ∀ q ∈ l, q.2 = 0 ∨ q.2 = 1) : ∀ q ∈ dw_put d x l, q.2 = 0 ∨ q.2 = 1 := by
  intro q hq
  rcases hs : dw_get l d with _ | y
  · rw [dw_put_n hs] at hq
    rcases List.mem_cons.mp hq with e | e
    · rw [e]; exact hx
    · exact h q e
  · rw [dw_put_s hs] at hq
    rcases (dw_setM hq).2 with e | e
    · rw [e]; exact hx
    · exact h q e
set_option maxRecDepth 20000 in
theorem bX9_exception_0 {X : pz_C} (hX : pz_X X cX9_exception 7 RX9) : ∀ lv st g c s, (zo_il 1 1 (zo_al 1 0 (zo_get 11 0 (zo_get 6 0 (pz_Z X 7))))) 0 lv st g c s → pz_Z X 7 0 lv st g c s := (zs_iload_n hX dX9_exception_0 rfl (zs_aload_n hX dX9_exception_1 rfl (zs_get hX (C := RX9) (T := TX9) (N := 7) rfl in_X9 (by decide) mw_a7a80db5 dX9_exception_2 (zs_get hX (C := RX4) (T := TX4) (N := 5) rfl in_X4 (by decide) mw_2e6b86cc dX9_exception_5 (fun _ _ _ _ _ h => h)))))
set_option maxRecDepth 20000 in
theorem bX9_exception_8 {X : pz_C} {G : pz_Gx} {sa md mi : Nat} {rm : Room} (hX : pz_X X cX9_exception 7 RX9) (hrm : pz_rm X = rm) (hGX : pz_GX X G) (hOk : pz_O3 G sa md mi) (gh : gt_Jx4a65c_size_8abf5) (hr_Jx4a65c_size_8abf5 : rm_Jx4a65c_size_8abf5.frames + 1 ≤ rm.frames ∧ 8 + (1 + 11) + rm_Jx4a65c_size_8abf5.locals ≤ rm.locals) : ∀ lv st g c s, (zo_cV rm 1 0 5 rm_Jx4a65c_size_8abf5.cells rm_Jx4a65c_size_8abf5.slots (pr_Jx4a65c_size_8abf5 gh) (po_Jx4a65c_size_8abf5 gh) (zo_ki (pz_Z X 7))) 8 lv st g c s → pz_Z X 7 8 lv st g c s := by
  subst hrm
  exact (zs_csF hX hGX (C := RJx4a65c) (T := TJx4a65c) (N := 3) rfl (ct_Jx4a65c_size_8abf5 hOk.1.1 gh) (hOk.1.1.2.1) mw_54f589cd mw_e0c83bb7 mw_8c7bf081 mw_dd3bf01c mw_d1eac4b0 (by decide +kernel) hr_Jx4a65c_size_8abf5 dX9_exception_8 (zs_ki (fun _ _ _ _ _ h => h)))
set_option maxRecDepth 20000 in
theorem bX9_exception_13 {X : pz_C} {G : pz_Gx} {sa md mi : Nat} {PX : String → pz_H → Prop} {rm : Room} (hX : pz_X X cX9_exception 7 RX9) (hrm : pz_rm X = rm) (hGX : pz_GX X G) (hOk : pz_O3 G sa md mi) (hT : pz_Te X 7 rm PX) (gh : gt_X9_requireIndex) (hr_X9_requireIndex : rm_X9_requireIndex.frames + 1 ≤ rm.frames ∧ 8 + (2 + 11) + rm_X9_requireIndex.locals ≤ rm.locals) : ∀ lv st g c s, (zo_csX rm 2 3 rm_X9_requireIndex.cells rm_X9_requireIndex.slots (pr_X9_requireIndex gh) (po_X9_requireIndex gh) (px_X9_requireIndex gh) (zo_te rm PX) (zo_kv (zo_ll 1 2 (zo_lc 1 (0) (zo_lc 3 (20000) (pz_Z X 7)))))) 13 lv st g c s → pz_Z X 7 13 lv st g c s := by
  subst hrm
  exact (zs_csSX hX hGX (ct_X9_requireIndex hOk gh) mw_4ee6c08a mw_6fa824eb mw_8bb91264 mw_b75cb11b (by decide +kernel) hr_X9_requireIndex dX9_exception_13 (zs_te hT) (zs_kv (zs_lload_n hX dX9_exception_16 rfl (zs_lconst hX dX9_exception_17 (by decide) (zs_ldc2 hX dX9_exception_18 mw_7e3dc81f (fun _ _ _ _ _ h => h))))))
set_option maxRecDepth 20000 in
theorem bX9_exception_21 {X : pz_C} {G : pz_Gx} {sa md mi : Nat} {PX : String → pz_H → Prop} {rm : Room} (hX : pz_X X cX9_exception 7 RX9) (hrm : pz_rm X = rm) (hGX : pz_GX X G) (hOk : pz_O3 G sa md mi) (hT : pz_Te X 7 rm PX) (gh : gt_X9_requireRange) (hr_X9_requireRange : rm_X9_requireRange.frames + 1 ≤ rm.frames ∧ 8 + (6 + 11) + rm_X9_requireRange.locals ≤ rm.locals) : ∀ lv st g c s, (zo_csX rm 3 3 rm_X9_requireRange.cells rm_X9_requireRange.slots (pr_X9_requireRange gh) (po_X9_requireRange gh) (px_X9_requireRange gh) (zo_te rm PX) (zo_kv (zo_al 1 0 (zo_get 11 0 (zo_get 6 0 (zo_il 1 1 (pz_Z X 7))))))) 21 lv st g c s → pz_Z X 7 21 lv st g c s := by
  subst hrm
  exact (zs_csSX hX hGX (ct_X9_requireRange hOk gh) mw_6378151b mw_14fb916b mw_8bb91264 mw_a40b3fa2 (by decide +kernel) hr_X9_requireRange dX9_exception_21 (zs_te hT) (zs_kv (zs_aload_n hX dX9_exception_24 rfl (zs_get hX (C := RX9) (T := TX9) (N := 7) rfl in_X9 (by decide) mw_a7a80db5 dX9_exception_25 (zs_get hX (C := RX4) (T := TX4) (N := 5) rfl in_X4 (by decide) mw_2e6b86cc dX9_exception_28 (zs_iload_n hX dX9_exception_31 rfl (fun _ _ _ _ _ h => h)))))))
set_option maxRecDepth 20000 in
theorem bX9_exception_32 {X : pz_C} {G : pz_Gx} {sa md mi : Nat} {rm : Room} (hX : pz_X X cX9_exception 7 RX9) (hrm : pz_rm X = rm) (hGX : pz_GX X G) (hOk : pz_O3 G sa md mi) (gh : gt_Jx4a65c_get_915e3) (hr_Jx4a65c_get_915e3 : rm_Jx4a65c_get_915e3.frames + 1 ≤ rm.frames ∧ 8 + (2 + 11) + rm_Jx4a65c_get_915e3.locals ≤ rm.locals) : ∀ lv st g c s, (zo_cV rm 1 1 5 rm_Jx4a65c_get_915e3.cells rm_Jx4a65c_get_915e3.slots (pr_Jx4a65c_get_915e3 gh) (po_Jx4a65c_get_915e3 gh) (zo_kr (zo_cast1 5 (zo_as 2 5 (zo_al 2 5 (zo_ll 1 2 (zo_l2i (pz_Z X 7)))))))) 32 lv st g c s → pz_Z X 7 32 lv st g c s := by
  subst hrm
  exact (zs_csF hX hGX (C := RJx4a65c) (T := TJx4a65c) (N := 3) rfl (ct_Jx4a65c_get_915e3 hOk.1.1 gh) (hOk.1.1.2.2.1) mw_fdee3bb6 mw_50a82afc mw_e81a0f1b mw_dd3bf01c mw_817361af (by decide +kernel) hr_Jx4a65c_get_915e3 dX9_exception_32 (zs_kr (by first | exact Or.inl ⟨_, rfl⟩ | exact Or.inr ⟨_, rfl⟩) (zs_cast1 hX (C := RX3) (T := TX3) (N := 11) rfl mw_78b2f1f9 dX9_exception_37 (zs_astore hX dX9_exception_40 (by decide) (zs_aload hX dX9_exception_42 (zs_lload_n hX dX9_exception_44 rfl (zs_l2i hX dX9_exception_45 (fun _ _ _ _ _ h => h))))))))
set_option maxRecDepth 20000 in
theorem bX9_exception_46 {X : pz_C} {G : pz_Gx} {sa md mi : Nat} {rm : Room} (hX : pz_X X cX9_exception 7 RX9) (hrm : pz_rm X = rm) (hGX : pz_GX X G) (hOk : pz_O3 G sa md mi) (gh : gt_X3_wordFor2) (hr_X3_wordFor2 : rm_X3_wordFor2.frames + 1 ≤ rm.frames ∧ 8 + (3 + 11) + rm_X3_wordFor2.locals ≤ rm.locals) : ∀ lv st g c s, (zo_cV rm 5 1 3 rm_X3_wordFor2.cells rm_X3_wordFor2.slots (pr_X3_wordFor2 gh) (po_X3_wordFor2 gh) (zo_kr (zo_as 2 6 (zo_al 2 6 (zo_ifnull 68 (pz_Z X 7)))))) 46 lv st g c s → pz_Z X 7 46 lv st g c s := by
  subst hrm
  exact (zs_csV hX hGX (C := RX3) (T := TX3) (N := 11) rfl (ct_X3_wordFor2 hOk.1.1 gh) mw_b1523cfb mw_573890c9 mw_361e345e mw_ad64dfa1 mw_ea7b4c2c (by decide +kernel) hr_X3_wordFor2 dX9_exception_46 (zs_kr (by first | exact Or.inl ⟨_, rfl⟩ | exact Or.inr ⟨_, rfl⟩) (zs_astore hX dX9_exception_49 (by decide) (zs_aload hX dX9_exception_51 (zs_ifnull hX dX9_exception_53 (by decide) (fun _ _ _ _ _ _ h => h))))))
set_option maxRecDepth 20000 in
theorem bX9_exception_56 {X : pz_C} {rm : Room} {E : Option pz_V → pz_H → Prop} (hX : pz_X X cX9_exception 7 RX9) (hR : pz_Rt X cX9_exception 7 (some .int) rm E) : ∀ lv st g c s, (zo_al 2 6 (zo_il 2 4 (zo_putz 2 1 (zo_al 1 0 (zo_get 11 4 (zo_ri rm E)))))) 56 lv st g c s → pz_Z X 7 56 lv st g c s := (zs_aload hX dX9_exception_56 (zs_iload hX dX9_exception_58 (zs_putz hX (C := RX0) (T := TX0) (N := 3) rfl in_X0 (by decide) mw_6cff014a tyX0 tyX0_ok nmX0 (by decide +kernel) rfl dX9_exception_60 (zs_aload_n hX dX9_exception_63 rfl (zs_get hX (C := RX9) (T := TX9) (N := 7) rfl in_X9 (by decide) mw_70b77dff dX9_exception_64 (zs_ri hR dX9_exception_67))))))
set_option maxRecDepth 20000 in
theorem bX9_exception_68 {X : pz_C} (hX : pz_X X cX9_exception 7 RX9) : ∀ lv st g c s, (zo_al 1 0 (zo_get 11 4 (zo_ic 2 (100) (zo_ic_ge 81 (pz_Z X 7))))) 68 lv st g c s → pz_Z X 7 68 lv st g c s := (zs_aload_n hX dX9_exception_68 rfl (zs_get hX (C := RX9) (T := TX9) (N := 7) rfl in_X9 (by decide) mw_70b77dff dX9_exception_69 (zs_bipush hX dX9_exception_72 (by decide) (zs_ic_ge hX dX9_exception_74 (by decide) (fun _ _ _ _ _ _ h => h)))))
set_option maxRecDepth 20000 in
theorem bX9_exception_77 {X : pz_C} (hX : pz_X X cX9_exception 7 RX9) : ∀ lv st g c s, (zo_ic 1 (1) (zo_goto 82 (pz_Z X 7))) 77 lv st g c s → pz_Z X 7 77 lv st g c s := (zs_iconst hX dX9_exception_77 (by decide) (zs_goto hX dX9_exception_78 (by decide) (fun _ _ _ _ _ _ h => h)))
set_option maxRecDepth 20000 in
theorem bX9_exception_81 {X : pz_C} (hX : pz_X X cX9_exception 7 RX9) : ∀ lv st g c s, (zo_ic 1 (0) (pz_Z X 7)) 81 lv st g c s → pz_Z X 7 81 lv st g c s := (zs_iconst hX dX9_exception_81 (by decide) (fun _ _ _ _ _ h => h))
set_option maxRecDepth 20000 in
theorem bX9_exception_82 {X : pz_C} {G : pz_Gx} {sa md mi : Nat} {PX : String → pz_H → Prop} {rm : Room} (hX : pz_X X cX9_exception 7 RX9) (hrm : pz_rm X = rm) (hGX : pz_GX X G) (hOk : pz_O3 G sa md mi) (hT : pz_Te X 7 rm PX) (gh : gt_X9_requireRoom) (hr_X9_requireRoom : rm_X9_requireRoom.frames + 1 ≤ rm.frames ∧ 8 + (1 + 11) + rm_X9_requireRoom.locals ≤ rm.locals) : ∀ lv st g c s, (zo_csX rm 1 3 rm_X9_requireRoom.cells rm_X9_requireRoom.slots (pr_X9_requireRoom gh) (po_X9_requireRoom gh) (px_X9_requireRoom gh) (zo_te rm PX) (zo_kv (zo_al 2 5 (zo_new rm 2 3 [.inl 0, .inl 0, .inr (.inr none)] (zo_dup (zo_ll 1 2 (zo_l2i (zo_il 2 4 (zo_al 2 5 (zo_get 5 5 (pz_Z X 7))))))))))) 82 lv st g c s → pz_Z X 7 82 lv st g c s := by
  subst hrm
  exact (zs_csSX hX hGX (ct_X9_requireRoom hOk gh) mw_beef0b16 mw_3412a6f2 mw_8bb91264 mw_389c92d4 (by decide +kernel) hr_X9_requireRoom dX9_exception_82 (zs_te hT) (zs_kv (zs_aload hX dX9_exception_85 (zs_new hX (C := RX0) (T := TX0) rfl in_X0 tyX0 tyX0_ok mw_6b0adf25 mw_614a5dee mw_3f2a2ae7 (fun j hj => by rcases (show j = 0 ∨ j = 1 ∨ j = 2 by omega) with rfl | rfl | rfl <;> rfl) dX9_exception_87 (zs_dup hX dX9_exception_90 (zs_lload_n hX dX9_exception_91 rfl (zs_l2i hX dX9_exception_92 (zs_iload hX dX9_exception_93 (zs_aload hX dX9_exception_95 (zs_get hX (C := RX3) (T := TX3) (N := 11) rfl in_X3 (by decide) mw_c7698896 dX9_exception_97 (fun _ _ _ _ _ h => h)))))))))))
set_option maxRecDepth 20000 in
theorem bX9_exception_100 {X : pz_C} {G : pz_Gx} {sa md mi : Nat} {rm : Room} {E : Option pz_V → pz_H → Prop} (hX : pz_X X cX9_exception 7 RX9) (hR : pz_Rt X cX9_exception 7 (some .int) rm E) (hrm : pz_rm X = rm) (hGX : pz_GX X G) (hOk : pz_O3 G sa md mi) (gh : gt_X0_init) (hr_X0_init : rm_X0_init.frames + 1 ≤ rm.frames ∧ 8 + (4 + 11) + rm_X0_init.locals ≤ rm.locals) : ∀ lv st g c s, (zo_cI rm 3 3 rm_X0_init.cells rm_X0_init.slots (pr_X0_init gh) (po_X0_init gh) (zo_kv (zo_putr 5 5 (zo_al 1 0 (zo_dup (zo_get 11 4 (zo_ic 1 (1) (zo_iadd (zo_puti 11 4 (zo_al 1 0 (zo_get 11 4 (zo_ri rm E)))))))))))) 100 lv st g c s → pz_Z X 7 100 lv st g c s := by
  subst hrm
  exact (zs_csI hX hGX (ct_X0_init hOk.1.1 gh) mw_4c2785ca mw_7c5fbee8 mw_3f2a2ae7 mw_4eaeba9d rfl (by decide +kernel) hr_X0_init dX9_exception_100 (zs_kv (zs_putr hX (C := RX3) (T := TX3) (N := 11) rfl in_X3 (by decide) mw_c7698896 tyX3 tyX3_ok nmX3 (ty := (.object "LineTimes$DayWord")) (by decide +kernel) rfl rfl dX9_exception_103 (zs_aload_n hX dX9_exception_106 rfl (zs_dup hX dX9_exception_107 (zs_get hX (C := RX9) (T := TX9) (N := 7) rfl in_X9 (by decide) mw_70b77dff dX9_exception_108 (zs_iconst hX dX9_exception_111 (by decide) (zs_iadd hX dX9_exception_112 (zs_puti hX (C := RX9) (T := TX9) (N := 7) rfl in_X9 (by decide) mw_70b77dff tyX9 tyX9_ok nmX9 (by decide +kernel) rfl dX9_exception_113 (zs_aload_n hX dX9_exception_116 rfl (zs_get hX (C := RX9) (T := TX9) (N := 7) rfl in_X9 (by decide) mw_70b77dff dX9_exception_117 (zs_ri hR dX9_exception_120))))))))))))
def rm_X9_exception : Room := { frames := 7, cells := 4, slots := 21, locals := 120 }
abbrev gt_X9_exception : Type := (Nat × Int32 × Int64 × Int32) × (Nat × Nat × Nat × Nat) × (Nat × Nat × Nat) × (Nat × Nat × Nat × Nat × Int32 × (Nat → Nat)) × (Nat × (Nat → lr_T) × Nat)
def pr_X9_exception (sa : Nat) : gt_X9_exception → List pz_V → pz_H → Prop := fun ((h, x, a, b), (nt, wy, lv, tx), (ne, nz, nw), (la, pa, na, so, fd, Wa), (nl, L, U)) av g => av = [.inr (.inr (some (h))), .inl (x), .inr (.inl (a)), .inl (b)] ∧ (b = 0 ∨ b = 1) ∧ ne ≤ 100 ∧ ltS g h nt wy lv tx ne nz nw ∧ ntS g nt la pa na so fd Wa ∧ nlE g la sa nl L U ∧ ∀ i, i < nl → dwO (L i).2.2.2.2.1
def exN (ne : Nat) (o : Option Int32) : Nat := match o with
  | some _ => ne
  | none => ne + 1
def po_X9_exception (sa : Nat) : gt_X9_exception → List pz_V → pz_H → Option pz_V → pz_H → Prop := fun ((h, x, a, b), (nt, wy, lv, tx), (ne, nz, nw), (la, pa, na, so, fd, Wa), (nl, L, U)) _ g v g' => ¬ bdI x (nI nl) ∧ ¬ bdR a 0 20000 ∧ ∃ k D, k < nl ∧ x = nI k ∧ D ≤ 20000 ∧ a = lN D ∧ ¬ (ne = 100 ∧ dw_get (L k).2.2.2.2.1 (nI D) = none) ∧ v = some (.inl (nI (exN ne (dw_get (L k).2.2.2.2.1 (nI D))))) ∧ hg (fun b => b = [0] ∨ b = [30, lr_u (L k)] ∨ ∃ y, b = [40, lr_u (L k), y]) g g' ∧ ltS g' h nt wy lv tx (exN ne (dw_get (L k).2.2.2.2.1 (nI D))) nz nw ∧ ∃ q, nlE g' la sa nl (fun i => if i = k then lr_dw q (dw_put (nI D) b (L i).2.2.2.2.1) (L i) else L i) U
def px_X9_exception : gt_X9_exception → List pz_V → pz_H → String → pz_H → Prop := fun ((h, x, a, b), _, (ne, _, _), _, (nl, L, _)) _ g E g' => g' = g ∧ ((E = nIOB ∧ bdI x (nI nl)) ∨ (E = nIAE ∧ ¬ bdI x (nI nl) ∧ bdR a 0 20000) ∨ (E = nUOE ∧ ¬ bdI x (nI nl) ∧ ¬ bdR a 0 20000 ∧ ∃ k D, k < nl ∧ x = nI k ∧ D ≤ 20000 ∧ a = lN D ∧ ne = 100 ∧ dw_get (L k).2.2.2.2.1 (nI D) = none))
set_option maxRecDepth 20000 in
set_option maxHeartbeats 4000000 in
theorem ct_X9_exception {G : pz_Gx} {sa md mi : Nat} (hOk : pz_O3 G sa md mi) (gh : gt_X9_exception) : pz_MX G yX9_exception cX9_exception 7 (some .int) rm_X9_exception (pr_X9_exception sa gh) (po_X9_exception sa gh) (px_X9_exception gh) := by
  obtain ⟨⟨h, x, a, b⟩, ⟨nt, wy, lv, tx⟩, ⟨ne, nz, nw⟩, ⟨la, pa, na, so, fd, Wa⟩, nl, L, U⟩ := gh
  refine pz_ofZX (by decide) hOk.1.1.1 (Or.inr (Or.inl rfl)) ?_ ?_
  · rintro av g ⟨rfl, -⟩
    exact Nat.le_of_ble_eq_true rfl
  · rintro X hX hGX hrm av g ⟨rfl, hb01, hne, hlt, hnt, hnl, hdO⟩ hR hT -
    obtain ⟨hn40, hls, hL, hinj⟩ := id hnl
    obtain ⟨h41, mc, ed, cap, o, hla, hc⟩ := id hls
    refine bX9_exception_0 hX _ _ _ _ _ ⟨_, _, _, hlt, rfl, _, _, _, hnt.1, rfl, ?_⟩
    refine bX9_exception_8 hX hrm hGX hOk (la, nI nl) (by decide) _ _ _ _ _ ⟨Nat.le_of_ble_eq_true rfl, ⟨la, [], [5], _, rfl, hla⟩, Nat.le_of_ble_eq_true rfl, Nat.le_of_ble_eq_true rfl, Nat.le_of_ble_eq_true rfl, ⟨rfl, _, _, hla, rfl⟩, ?_⟩
    rintro v g2 ⟨rfl, rfl⟩ z hz
    cases hz
    refine bX9_exception_13 hX hrm hGX hOk hT (x, nI nl) (by decide) _ _ _ _ _ ⟨Nat.le_of_ble_eq_true rfl, Nat.le_of_ble_eq_true rfl, Nat.le_of_ble_eq_true rfl, Nat.le_of_ble_eq_true rfl, rfl, ?_, ?_⟩
    · rintro E g2 ⟨rfl, rfl, hb⟩
      exact ⟨Nat.le_of_ble_eq_true rfl, Nat.le_of_ble_eq_true rfl, rfl, Or.inl ⟨rfl, hb⟩⟩
    rintro v g3 ⟨rfl, rfl, h1⟩ -
    refine bX9_exception_21 hX hrm hGX hOk hT (a, 0, 20000) (by decide) _ _ _ _ _ ⟨Nat.le_of_ble_eq_true rfl, Nat.le_of_ble_eq_true rfl, Nat.le_of_ble_eq_true rfl, Nat.le_of_ble_eq_true rfl, rfl, ?_, ?_⟩
    · rintro E g2 ⟨rfl, rfl, hb⟩
      exact ⟨Nat.le_of_ble_eq_true rfl, Nat.le_of_ble_eq_true rfl, rfl, Or.inr (Or.inl ⟨rfl, h1, hb⟩)⟩
    rintro v g6 ⟨rfl, rfl, h4⟩ -
    obtain ⟨k, hk, rfl⟩ := bI_nI (b := nl) (by omega) h1
    obtain ⟨D, hD, rfl⟩ := bR_nI (b := 20000) (by omega) h4
    refine ⟨_, _, _, hlt, rfl, _, _, _, hnt.1, rfl, ?_⟩
    refine bX9_exception_32 hX hrm hGX hOk (la, k, [5], [6], nl, fun i => lr_h (L i)) (by decide) _ _ _ _ _ ⟨Nat.le_of_ble_eq_true rfl, ⟨la, [.inl (nI k)], [5], _, rfl, hla⟩, Nat.le_of_ble_eq_true rfl, Nat.le_of_ble_eq_true rfl, Nat.le_of_ble_eq_true rfl, ⟨rfl, hk, lsE_S hls⟩, ?_⟩
    rintro v g7 ⟨rfl, rfl⟩ z hz
    cases hz
    obtain ⟨hok, ⟨rn, At, Bt, htk⟩, huk⟩ := hL k hk
    have hdk := hdO k hk
    rcases hLk : L k with ⟨⟨u, hq⟩, ⟨La, Ra, Rd⟩, ⟨wd, n, dw, lw⟩, ⟨f1, f2, f3⟩, dl, ll⟩
    rw [hLk] at hok htk hdk
    obtain ⟨o1, o2, o3, o4, o5, o6, o7⟩ := id hok
    obtain ⟨c0, c1, c2, c3, ⟨q8, c8, d8⟩, q9, c9, d9⟩ := id o2
    have eh : lr_h (L k) = hq := by rw [hLk]
    have eu : lr_u (L k) = u := by rw [hLk]
    have ed : (L k).2.2.2.2.1 = dl := by rw [hLk]
    have c0' := c0
    rw [← eh] at c0'
    refine ⟨_, _, c0', ?_⟩
    show pz_Z X 7 46 [(5, .inr (.inr (some (lr_h (L k))))), (0, .inr (.inr (some (h)))), (1, .inl (nI k)), (2, .inr (.inl (lN D))), (4, .inl (b))] [.inl ((lN D).toInt32), .inr (.inr (some (lr_h (L k))))] g7 2 12
    rw [eh, lN_i]
    have hD0 : 0 ≤ (nI D).toInt := by rw [nI_toInt (by omega)]; omega
    refine bX9_exception_46 hX hrm hGX hOk (hq, nI D, u, dl, dw) (by decide) _ _ _ _ _ ⟨Nat.le_of_ble_eq_true rfl, ⟨hq, [.inl (nI D)], [30, u], _, rfl, c0⟩, Nat.le_of_ble_eq_true rfl, Nat.le_of_ble_eq_true rfl, Nat.le_of_ble_eq_true rfl, ⟨rfl, hD0, hdk, ⟨_, _, c0, rfl⟩, o3⟩, ?_⟩
    rintro v g8 ⟨rfl, hc⟩ z hz
    have hd01 := dw_put01 (d := nI D) hb01 o4
    rcases hc with ⟨rfl, hs⟩ | ⟨w, y, r', rfl, hw, hs, hrep⟩
    · cases hz
      refine ⟨fun _ => ?_, fun a q => by cases q⟩
      have ex1 : exN ne (dw_get (L k).2.2.2.2.1 (nI D)) = ne + 1 := by rw [ed, hs]; rfl
      have room : ∀ y : Int32, (y = 0 ∨ y = 1) → (y = 0 ↔ ne = 100) → pz_Z X 7 82 [(6, .inr (.inr none)), (5, .inr (.inr (some (hq)))), (0, .inr (.inr (some (h)))), (1, .inl (nI k)), (2, .inr (.inl (lN D))), (4, .inl (b))] [.inl (y)] g8 2 12 := by
        intro y hy he
        refine bX9_exception_82 hX hrm hGX hOk hT y (by decide) _ _ _ _ _ ⟨Nat.le_of_ble_eq_true rfl, Nat.le_of_ble_eq_true rfl, Nat.le_of_ble_eq_true rfl, Nat.le_of_ble_eq_true rfl, rfl, ?_, ?_⟩
        · rintro E g2 ⟨rfl, rfl, hb⟩
          exact ⟨Nat.le_of_ble_eq_true rfl, Nat.le_of_ble_eq_true rfl, rfl, Or.inr (Or.inr ⟨rfl, h1, h4, k, D, hk, rfl, hD, rfl, he.mp hb, by rw [ed]; exact hs⟩)⟩
        rintro v g8 ⟨rfl, rfl, h5⟩ -
        have hl : ne < 100 := Nat.lt_of_le_of_ne hne (fun e => h5 (he.mpr e))
        refine ⟨Nat.le_of_ble_eq_true rfl, Nat.le_of_ble_eq_true rfl, [40, u, (nI D).toNatClampNeg], fun q hq0 => ?_⟩
        have t1 : hg (fun _ => False) g8 (va_up g8 q (some ([40, u, (nI D).toNatClampNeg], .inr (2, [.inl 0, .inl 0, .inr (.inr none)])))) := hg_new hg_rf hq0
        have c0n := t1 _ _ _ c0 (fun e => e)
        refine ⟨rfl, _, _, _, c0n, rfl, ?_⟩
        show pz_Z X 7 100 [(6, .inr (.inr none)), (5, .inr (.inr (some (hq)))), (0, .inr (.inr (some (h)))), (1, .inl (nI k)), (2, .inr (.inl (lN D))), (4, .inl (b))] [.inr (.inr dw), .inl (b), .inl ((lN D).toInt32), .inr (.inr (some (q))), .inr (.inr (some (q))), .inr (.inr (some (hq)))] _ 4 21
        rw [lN_i]
        refine bX9_exception_100 hX hR hrm hGX hOk (q, [40, u, (nI D).toNatClampNeg], nI D, b, dw) (by decide) _ _ _ _ _ ⟨Nat.le_of_ble_eq_true rfl, ⟨q, [.inl (nI D), .inl (b), .inr (.inr dw)], rfl⟩, Nat.le_of_ble_eq_true rfl, Nat.le_of_ble_eq_true rfl, Nat.le_of_ble_eq_true rfl, ⟨rfl, hb01, up_at⟩, ?_⟩
        rintro v g9 ⟨rfl, e9⟩ -
        have t2 : hg (fun _ => False) g8 g9 := by
          rw [e9, up_up]
          exact hg_new hg_rf hq0
        have cq : g9 q = some ([40, u, (nI D).toNatClampNeg], dw_c (nI D) b dw) := by rw [e9]; exact up_at
        have c0m := t2 _ _ _ c0 (fun e => e)
        have hltm : ltS g9 h nt wy lv tx ne nz nw := t2 _ _ _ hlt (fun e => e)
        clear e9
        refine ⟨_, _, c0m, Nat.le_of_ble_eq_true rfl, ?_⟩
        generalize hg10 : va_up g9 hq (some ([30, u], .inr (5, List.set (ln_fs wd (La 1) (La 2) (La 3) n dw lw (La 7) (La 8) (La 9) (La 10)) 5 (.inr (.inr (some (q))))))) = g10
        have t3 : hg (fun b => b = [30, u]) g9 g10 := by rw [← hg10]; exact hg_up hg_rf c0m rfl
        have ch : g10 hq = some ([30, u], .inr (5, ln_fs wd (La 1) (La 2) (La 3) n (some q) lw (La 7) (La 8) (La 9) (La 10))) := by rw [← hg10]; exact up_at
        have hlt10 : ltS g10 h nt wy lv tx ne nz nw := t3 _ _ _ hltm (by simp)
        clear hg10
        refine ⟨rfl, _, _, _, hlt10, rfl, _, _, hlt10, Nat.le_of_ble_eq_true rfl, _, _, _, up_at, rfl, ?_⟩
        show _ ∧ _ ∧ _
        generalize hg11 : va_up g10 h _ = g11
        have t4 : hg (fun b => b = [0]) g10 g11 := by rw [← hg11]; exact hg_up hg_rf hlt10 rfl
        have hlt11 : ltS g11 h nt wy lv tx (ne + 1) nz nw := by
          rw [← hg11]
          unfold ltS
          rw [← nI_1]
          exact up_at
        clear hg11
        have T : hg (fun b => b = [0] ∨ b = [30, u]) g8 g11 := hg_tr (hg_mono t2 (fun b hb => hb.elim)) (hg_tr (hg_mono t3 (fun b hb => Or.inr hb)) (hg_mono t4 (fun b hb => Or.inl hb)))
        have ch11 := t4 _ _ _ ch (by simp)
        have cq11 := t4 _ _ _ (t3 _ _ _ cq (by simp)) (by simp)
        refine ⟨Nat.le_of_ble_eq_true rfl, Nat.le_of_ble_eq_true rfl, h1, h4, k, D, hk, rfl, hD, rfl, fun e => by omega, by rw [ex1, ← nI_1], hg_mono T (fun b hb => ?_), by rw [ex1]; exact hlt11, some q, ?_⟩
        · rw [eu]; rcases hb with hb | hb
          · exact Or.inl hb
          · exact Or.inr (Or.inl hb)
        refine nlE_up (L := L) T (by simp) hk (fun x u' r e => ?_) hnl (fun x => lr_dw (some q) (dw_put (nI D) b x.2.2.2.2.1) x) ?_ ?_ ?_
        · rw [eu]; simp at e; exact e.2.1
        · rw [hLk]; exact ⟨rfl, rfl⟩
        · rw [hLk]
          refine ⟨o1, ⟨ch11, T _ _ _ c1 (by simp), T _ _ _ c2 (by simp), T _ _ _ c3 (by simp), ⟨q8, T _ _ _ c8 (by simp), d8⟩, q9, T _ _ _ c9 (by simp), d9⟩, ?_, hd01, lt_mono T (by simp) _ _ o5, o6, o7⟩
          show dw_ch g11 u (some q) (dw_put (nI D) b dl)
          rw [dw_put_n hs]
          exact ⟨q, dw, rfl, cq11, dw_mono T (by simp) _ _ o3⟩
        · rw [hLk]
          refine ⟨rn, At, Bt, ?_⟩
          have := lrT_mono T _ (by simp) htk
          exact this
      refine bX9_exception_68 hX _ _ _ _ _ ⟨_, _, _, hlt, rfl, fun q => ?_, fun q => ?_⟩
      · refine bX9_exception_81 hX _ _ _ _ _ (room 0 (Or.inl rfl) ⟨fun _ => ?_, fun _ => rfl⟩)
        have := (ni_le (a := 100) (by omega) (by omega)).mp q
        omega
      · refine bX9_exception_77 hX _ _ _ _ _ (room 1 (Or.inr rfl) ⟨fun e => absurd e (by decide), fun e => absurd ?_ q⟩)
        rw [e]; decide
    · cases hz
      refine ⟨fun q => (by cases q), fun _ _ => ?_⟩
      have ex1 : exN ne (dw_get (L k).2.2.2.2.1 (nI D)) = ne := by rw [ed, hs]; rfl
      have T : hg (fun b => b = [40, u, (nI D).toNatClampNeg]) g8 (va_up g8 w (some ([40, u, (nI D).toNatClampNeg], dw_c (nI D) b r'))) := hg_up hg_rf hw rfl
      have hr := hrep b
      refine bX9_exception_56 hX hR _ _ _ _ _ ⟨hb01, _, _, hw, Nat.le_of_ble_eq_true rfl, ?_⟩
      show _
      generalize hg11 : va_up g8 w (some ([40, u, (nI D).toNatClampNeg], dw_c (nI D) b r')) = g11 at T hr
      have hlt11 : ltS g11 h nt wy lv tx ne nz nw := T _ _ _ hlt (by simp)
      have e11 : va_up g8 w (some ([40, u, (nI D).toNatClampNeg], .inr (2, List.set [.inl (nI D), .inl y, .inr (.inr r')] 1 (.inl b)))) = g11 := hg11
      rw [e11]
      refine ⟨_, _, _, hlt11, rfl, Nat.le_of_ble_eq_true rfl, Nat.le_of_ble_eq_true rfl, h1, h4, k, D, hk, rfl, hD, rfl, fun e => (by rw [ed, hs] at e; exact nomatch e.2), by rw [ex1], hg_mono T (fun b hb => ?_), by rw [ex1]; exact hlt11, dw, ?_⟩
      · rw [eu]; exact Or.inr (Or.inr ⟨_, hb⟩)
      refine nlE_up (L := L) T (by simp) hk (fun x u' r e => ?_) hnl (fun x => lr_dw dw (dw_put (nI D) b x.2.2.2.2.1) x) ?_ ?_ ?_
      · rw [eu]; simp at e; exact e.2.1
      · rw [hLk]; exact ⟨rfl, rfl⟩
      · rw [hLk]
        refine ⟨o1, lnH_mono T (by simp) o2, ?_, hd01, lt_mono T (by simp) _ _ o5, o6, o7⟩
        show dw_ch g11 u dw (dw_put (nI D) b dl)
        rw [dw_put_s hs]
        exact hr
      · rw [hLk]
        refine ⟨rn, At, Bt, ?_⟩
        have := lrT_mono T _ (by simp) htk
        exact this
