/-! LineTimes: stop -/
theorem nlE_up {g g' : pz_H} {S : List Nat → Prop} (hh : hg S g g') {la sa nl U k : Nat} {L : Nat → lr_T} (h0 : ¬ S [5] ∧ ¬ S [6] ∧ ¬ S [50]) (hk : k < nl) (hS : ∀ x u r, S (x :: u :: r) → u = lr_u (L k)) (h : nlE g la sa nl L U) (Y : lr_T → lr_T) (hu : lr_u (Y (L k)) = lr_u (L k) ∧ lr_h (Y (L k)) = lr_h (L k)) (ho : lrOK g' (Y (L k))) (ht : ∃ rn A B, lrT g' (Y (L k)) rn A B) : nlE g' la sa nl (fun i => if i = k then Y (L i) else L i) U := by
  obtain ⟨h1, h2, h3, h4⟩ := h
  have eh : (fun i => lr_h (if i = k then Y (L i) else L i)) = fun i => lr_h (L i) := by
    funext i
    by_cases hi : i = k
    · rw [if_pos hi, hi]; exact hu.2
    · rw [if_neg hi]
  have eu : ∀ i, lr_u (if i = k then Y (L i) else L i) = lr_u (L i) := fun i => by
    by_cases hi : i = k
    · rw [if_pos hi, hi]; exact hu.1
    · rw [if_neg hi]
  refine ⟨h1, ?_, fun i hi => ?_, fun i j hi hj e => h4 i j hi hj ?_⟩
  · rw [eh]; exact lsE_mono hh h0 h2
  · by_cases hik : i = k
    · subst hik
      refine ⟨?_, ?_, ?_⟩
      · dsimp only; rw [if_pos rfl]; exact ho
      · dsimp only; rw [if_pos rfl]; exact ht
      · rw [eu]; exact (h3 i hi).2.2
    · obtain ⟨a1, ⟨rn, A, B, a2⟩, a3⟩ := h3 i hi
      have n : ∀ (x : Nat) (r : List Nat), ¬ S (x :: lr_u (L i) :: r) := fun x r hb => hik (h4 i k hi hk (hS _ _ _ hb))
      refine ⟨?_, ?_, ?_⟩
      · dsimp only; rw [if_neg hik]
        exact lrOK_mono hh (L i) ⟨⟨n _ _, n _ _, n _ _, n _ _, n _ _, n _ _⟩, fun d => n _ _, n _ _⟩ a1
      · dsimp only; rw [if_neg hik]
        exact ⟨rn, A, B, lrT_mono hh (L i) ⟨n _ _, fun i => n _ _, fun i => n _ _, n _ _⟩ a2⟩
      · rw [eu]; exact a3
  · rw [← eu i, ← eu j]; exact e
set_option maxRecDepth 20000 in
theorem bX9_stop_0 {X : pz_C} (hX : pz_X X cX9_stop 8 RX9) : ∀ lv st g c s, (zo_il 1 1 (zo_al 1 0 (zo_get 11 0 (zo_get 6 0 (pz_Z X 8))))) 0 lv st g c s → pz_Z X 8 0 lv st g c s := (zs_iload_n hX dX9_stop_0 rfl (zs_aload_n hX dX9_stop_1 rfl (zs_get hX (C := RX9) (T := TX9) (N := 7) rfl in_X9 (by decide) mw_a7a80db5 dX9_stop_2 (zs_get hX (C := RX4) (T := TX4) (N := 5) rfl in_X4 (by decide) mw_2e6b86cc dX9_stop_5 (fun _ _ _ _ _ h => h)))))
set_option maxRecDepth 20000 in
theorem bX9_stop_8 {X : pz_C} {G : pz_Gx} {sa md mi : Nat} {rm : Room} (hX : pz_X X cX9_stop 8 RX9) (hrm : pz_rm X = rm) (hGX : pz_GX X G) (hOk : pz_O3 G sa md mi) (gh : gt_Jx4a65c_size_8abf5) (hr_Jx4a65c_size_8abf5 : rm_Jx4a65c_size_8abf5.frames + 1 ≤ rm.frames ∧ 8 + (1 + 11) + rm_Jx4a65c_size_8abf5.locals ≤ rm.locals) : ∀ lv st g c s, (zo_cV rm 1 0 5 rm_Jx4a65c_size_8abf5.cells rm_Jx4a65c_size_8abf5.slots (pr_Jx4a65c_size_8abf5 gh) (po_Jx4a65c_size_8abf5 gh) (zo_ki (pz_Z X 8))) 8 lv st g c s → pz_Z X 8 8 lv st g c s := by
  subst hrm
  exact (zs_csF hX hGX (C := RJx4a65c) (T := TJx4a65c) (N := 3) rfl (ct_Jx4a65c_size_8abf5 hOk.1.1 gh) (hOk.1.1.2.1) mw_54f589cd mw_e0c83bb7 mw_8c7bf081 mw_dd3bf01c mw_d1eac4b0 (by decide +kernel) hr_Jx4a65c_size_8abf5 dX9_stop_8 (zs_ki (fun _ _ _ _ _ h => h)))
set_option maxRecDepth 20000 in
theorem bX9_stop_13 {X : pz_C} {G : pz_Gx} {sa md mi : Nat} {PX : String → pz_H → Prop} {rm : Room} (hX : pz_X X cX9_stop 8 RX9) (hrm : pz_rm X = rm) (hGX : pz_GX X G) (hOk : pz_O3 G sa md mi) (hT : pz_Te X 8 rm PX) (gh : gt_X9_requireIndex) (hr_X9_requireIndex : rm_X9_requireIndex.frames + 1 ≤ rm.frames ∧ 8 + (2 + 11) + rm_X9_requireIndex.locals ≤ rm.locals) : ∀ lv st g c s, (zo_csX rm 2 3 rm_X9_requireIndex.cells rm_X9_requireIndex.slots (pr_X9_requireIndex gh) (po_X9_requireIndex gh) (px_X9_requireIndex gh) (zo_te rm PX) (zo_kv (zo_il 1 2 (zo_ic 2 (100) (pz_Z X 8))))) 13 lv st g c s → pz_Z X 8 13 lv st g c s := by
  subst hrm
  exact (zs_csSX hX hGX (ct_X9_requireIndex hOk gh) mw_4ee6c08a mw_6fa824eb mw_8bb91264 mw_b75cb11b (by decide +kernel) hr_X9_requireIndex dX9_stop_13 (zs_te hT) (zs_kv (zs_iload_n hX dX9_stop_16 rfl (zs_bipush hX dX9_stop_17 (by decide) (fun _ _ _ _ _ h => h)))))
set_option maxRecDepth 20000 in
theorem bX9_stop_19 {X : pz_C} {G : pz_Gx} {sa md mi : Nat} {PX : String → pz_H → Prop} {rm : Room} (hX : pz_X X cX9_stop 8 RX9) (hrm : pz_rm X = rm) (hGX : pz_GX X G) (hOk : pz_O3 G sa md mi) (hT : pz_Te X 8 rm PX) (gh : gt_X9_requireIndex) (hr_X9_requireIndex : rm_X9_requireIndex.frames + 1 ≤ rm.frames ∧ 8 + (2 + 11) + rm_X9_requireIndex.locals ≤ rm.locals) : ∀ lv st g c s, (zo_csX rm 2 3 rm_X9_requireIndex.cells rm_X9_requireIndex.slots (pr_X9_requireIndex gh) (po_X9_requireIndex gh) (px_X9_requireIndex gh) (zo_te rm PX) (zo_kv (zo_ll 1 3 (zo_lc 1 (0) (zo_lc 3 (259200) (pz_Z X 8)))))) 19 lv st g c s → pz_Z X 8 19 lv st g c s := by
  subst hrm
  exact (zs_csSX hX hGX (ct_X9_requireIndex hOk gh) mw_4ee6c08a mw_6fa824eb mw_8bb91264 mw_b75cb11b (by decide +kernel) hr_X9_requireIndex dX9_stop_19 (zs_te hT) (zs_kv (zs_lload_n hX dX9_stop_22 rfl (zs_lconst hX dX9_stop_23 (by decide) (zs_ldc2 hX dX9_stop_24 mw_42e9d2c2 (fun _ _ _ _ _ h => h))))))
set_option maxRecDepth 20000 in
theorem bX9_stop_27 {X : pz_C} {G : pz_Gx} {sa md mi : Nat} {PX : String → pz_H → Prop} {rm : Room} (hX : pz_X X cX9_stop 8 RX9) (hrm : pz_rm X = rm) (hGX : pz_GX X G) (hOk : pz_O3 G sa md mi) (hT : pz_Te X 8 rm PX) (gh : gt_X9_requireRange) (hr_X9_requireRange : rm_X9_requireRange.frames + 1 ≤ rm.frames ∧ 8 + (6 + 11) + rm_X9_requireRange.locals ≤ rm.locals) : ∀ lv st g c s, (zo_csX rm 3 3 rm_X9_requireRange.cells rm_X9_requireRange.slots (pr_X9_requireRange gh) (po_X9_requireRange gh) (px_X9_requireRange gh) (zo_te rm PX) (zo_kv (zo_ll 2 5 (zo_lc 1 (0) (zo_lc 3 (259200) (pz_Z X 8)))))) 27 lv st g c s → pz_Z X 8 27 lv st g c s := by
  subst hrm
  exact (zs_csSX hX hGX (ct_X9_requireRange hOk gh) mw_6378151b mw_14fb916b mw_8bb91264 mw_a40b3fa2 (by decide +kernel) hr_X9_requireRange dX9_stop_27 (zs_te hT) (zs_kv (zs_lload hX dX9_stop_30 (zs_lconst hX dX9_stop_32 (by decide) (zs_ldc2 hX dX9_stop_33 mw_42e9d2c2 (fun _ _ _ _ _ h => h))))))
set_option maxRecDepth 20000 in
theorem bX9_stop_36 {X : pz_C} {G : pz_Gx} {sa md mi : Nat} {PX : String → pz_H → Prop} {rm : Room} (hX : pz_X X cX9_stop 8 RX9) (hrm : pz_rm X = rm) (hGX : pz_GX X G) (hOk : pz_O3 G sa md mi) (hT : pz_Te X 8 rm PX) (gh : gt_X9_requireRange) (hr_X9_requireRange : rm_X9_requireRange.frames + 1 ≤ rm.frames ∧ 8 + (6 + 11) + rm_X9_requireRange.locals ≤ rm.locals) : ∀ lv st g c s, (zo_csX rm 3 3 rm_X9_requireRange.cells rm_X9_requireRange.slots (pr_X9_requireRange gh) (po_X9_requireRange gh) (px_X9_requireRange gh) (zo_te rm PX) (zo_kv (zo_al 1 0 (zo_get 11 0 (zo_get 6 0 (zo_il 1 1 (pz_Z X 8))))))) 36 lv st g c s → pz_Z X 8 36 lv st g c s := by
  subst hrm
  exact (zs_csSX hX hGX (ct_X9_requireRange hOk gh) mw_6378151b mw_14fb916b mw_8bb91264 mw_a40b3fa2 (by decide +kernel) hr_X9_requireRange dX9_stop_36 (zs_te hT) (zs_kv (zs_aload_n hX dX9_stop_39 rfl (zs_get hX (C := RX9) (T := TX9) (N := 7) rfl in_X9 (by decide) mw_a7a80db5 dX9_stop_40 (zs_get hX (C := RX4) (T := TX4) (N := 5) rfl in_X4 (by decide) mw_2e6b86cc dX9_stop_43 (zs_iload_n hX dX9_stop_46 rfl (fun _ _ _ _ _ h => h)))))))
set_option maxRecDepth 20000 in
theorem bX9_stop_47 {X : pz_C} {G : pz_Gx} {sa md mi : Nat} {rm : Room} (hX : pz_X X cX9_stop 8 RX9) (hrm : pz_rm X = rm) (hGX : pz_GX X G) (hOk : pz_O3 G sa md mi) (gh : gt_Jx4a65c_get_915e3) (hr_Jx4a65c_get_915e3 : rm_Jx4a65c_get_915e3.frames + 1 ≤ rm.frames ∧ 8 + (2 + 11) + rm_Jx4a65c_get_915e3.locals ≤ rm.locals) : ∀ lv st g c s, (zo_cV rm 1 1 5 rm_Jx4a65c_get_915e3.cells rm_Jx4a65c_get_915e3.slots (pr_Jx4a65c_get_915e3 gh) (po_Jx4a65c_get_915e3 gh) (zo_kr (zo_cast1 5 (zo_as 2 7 (zo_al 2 7 (pz_Z X 8)))))) 47 lv st g c s → pz_Z X 8 47 lv st g c s := by
  subst hrm
  exact (zs_csF hX hGX (C := RJx4a65c) (T := TJx4a65c) (N := 3) rfl (ct_Jx4a65c_get_915e3 hOk.1.1 gh) (hOk.1.1.2.2.1) mw_fdee3bb6 mw_50a82afc mw_e81a0f1b mw_dd3bf01c mw_817361af (by decide +kernel) hr_Jx4a65c_get_915e3 dX9_stop_47 (zs_kr (by first | exact Or.inl ⟨_, rfl⟩ | exact Or.inr ⟨_, rfl⟩) (zs_cast1 hX (C := RX3) (T := TX3) (N := 11) rfl mw_78b2f1f9 dX9_stop_52 (zs_astore hX dX9_stop_55 (by decide) (zs_aload hX dX9_stop_57 (fun _ _ _ _ _ h => h))))))
set_option maxRecDepth 20000 in
theorem bX9_stop_59 {X : pz_C} {G : pz_Gx} {sa md mi : Nat} {rm : Room} (hX : pz_X X cX9_stop 8 RX9) (hrm : pz_rm X = rm) (hGX : pz_GX X G) (hOk : pz_O3 G sa md mi) (gh : gt_X3_hasRoom) (hr_X3_hasRoom : rm_X3_hasRoom.frames + 1 ≤ rm.frames ∧ 8 + (1 + 11) + rm_X3_hasRoom.locals ≤ rm.locals) : ∀ lv st g c s, (zo_cV rm 5 0 3 rm_X3_hasRoom.cells rm_X3_hasRoom.slots (pr_X3_hasRoom gh) (po_X3_hasRoom gh) (zo_kz (pz_Z X 8))) 59 lv st g c s → pz_Z X 8 59 lv st g c s := by
  subst hrm
  exact (zs_csV hX hGX (C := RX3) (T := TX3) (N := 11) rfl (ct_X3_hasRoom hOk.1.1 gh) mw_93dcc311 mw_443464b6 mw_87633111 mw_ad64dfa1 mw_2a36a0f8 (by decide +kernel) hr_X3_hasRoom dX9_stop_59 (zs_kz (fun _ _ _ _ _ h => h)))
set_option maxRecDepth 20000 in
theorem bX9_stop_62 {X : pz_C} {G : pz_Gx} {sa md mi : Nat} {PX : String → pz_H → Prop} {rm : Room} (hX : pz_X X cX9_stop 8 RX9) (hrm : pz_rm X = rm) (hGX : pz_GX X G) (hOk : pz_O3 G sa md mi) (hT : pz_Te X 8 rm PX) (gh : gt_X9_requireRoom) (hr_X9_requireRoom : rm_X9_requireRoom.frames + 1 ≤ rm.frames ∧ 8 + (1 + 11) + rm_X9_requireRoom.locals ≤ rm.locals) : ∀ lv st g c s, (zo_csX rm 1 3 rm_X9_requireRoom.cells rm_X9_requireRoom.slots (pr_X9_requireRoom gh) (po_X9_requireRoom gh) (px_X9_requireRoom gh) (zo_te rm PX) (zo_kv (zo_ll 1 3 (zo_al 2 7 (pz_Z X 8))))) 62 lv st g c s → pz_Z X 8 62 lv st g c s := by
  subst hrm
  exact (zs_csSX hX hGX (ct_X9_requireRoom hOk gh) mw_beef0b16 mw_3412a6f2 mw_8bb91264 mw_389c92d4 (by decide +kernel) hr_X9_requireRoom dX9_stop_62 (zs_te hT) (zs_kv (zs_lload_n hX dX9_stop_65 rfl (zs_aload hX dX9_stop_66 (fun _ _ _ _ _ h => h)))))
set_option maxRecDepth 20000 in
theorem bX9_stop_68 {X : pz_C} {G : pz_Gx} {sa md mi : Nat} {rm : Room} (hX : pz_X X cX9_stop 8 RX9) (hrm : pz_rm X = rm) (hGX : pz_GX X G) (hOk : pz_O3 G sa md mi) (gh : gt_X3_lastLeaving) (hr_X3_lastLeaving : rm_X3_lastLeaving.frames + 1 ≤ rm.frames ∧ 8 + (1 + 11) + rm_X3_lastLeaving.locals ≤ rm.locals) : ∀ lv st g c s, (zo_cV rm 5 0 3 rm_X3_lastLeaving.cells rm_X3_lastLeaving.slots (pr_X3_lastLeaving gh) (po_X3_lastLeaving gh) (zo_ki (zo_i2l (zo_lcmp (zo_if_lt 83 (pz_Z X 8)))))) 68 lv st g c s → pz_Z X 8 68 lv st g c s := by
  subst hrm
  exact (zs_csV hX hGX (C := RX3) (T := TX3) (N := 11) rfl (ct_X3_lastLeaving hOk.1.1 gh) mw_2bd80262 mw_8b5f5627 mw_8e6a40fb mw_ad64dfa1 mw_e5375cfa (by decide +kernel) hr_X3_lastLeaving dX9_stop_68 (zs_ki (zs_i2l hX dX9_stop_71 (zs_lcmp hX dX9_stop_72 (zs_if_lt hX dX9_stop_73 (by decide) (fun _ _ _ _ _ _ h => h))))))
set_option maxRecDepth 20000 in
theorem bX9_stop_76 {X : pz_C} (hX : pz_X X cX9_stop 8 RX9) : ∀ lv st g c s, (zo_ll 2 5 (zo_ll 1 3 (zo_lcmp (zo_if_ge 85 (pz_Z X 8))))) 76 lv st g c s → pz_Z X 8 76 lv st g c s := (zs_lload hX dX9_stop_76 (zs_lload_n hX dX9_stop_78 rfl (zs_lcmp hX dX9_stop_79 (zs_if_ge hX dX9_stop_80 (by decide) (fun _ _ _ _ _ _ h => h)))))
set_option maxRecDepth 20000 in
theorem bX9_stop_83 {X : pz_C} {rm : Room} {E : Option pz_V → pz_H → Prop} (hX : pz_X X cX9_stop 8 RX9) (hR : pz_Rt X cX9_stop 8 (some .int) rm E) : ∀ lv st g c s, (zo_ic 1 (0) (zo_ri rm E)) 83 lv st g c s → pz_Z X 8 83 lv st g c s := (zs_iconst hX dX9_stop_83 (by decide) (zs_ri hR dX9_stop_84))
set_option maxRecDepth 20000 in
theorem bX9_stop_85 {X : pz_C} (hX : pz_X X cX9_stop 8 RX9) : ∀ lv st g c s, (zo_al 2 7 (zo_il 1 2 (zo_ll 1 3 (zo_l2i (zo_ll 2 5 (zo_l2i (pz_Z X 8))))))) 85 lv st g c s → pz_Z X 8 85 lv st g c s := (zs_aload hX dX9_stop_85 (zs_iload_n hX dX9_stop_87 rfl (zs_lload_n hX dX9_stop_88 rfl (zs_l2i hX dX9_stop_89 (zs_lload hX dX9_stop_90 (zs_l2i hX dX9_stop_92 (fun _ _ _ _ _ h => h)))))))
set_option maxRecDepth 20000 in
theorem bX9_stop_93 {X : pz_C} {G : pz_Gx} {sa md mi : Nat} {rm : Room} {E : Option pz_V → pz_H → Prop} (hX : pz_X X cX9_stop 8 RX9) (hR : pz_Rt X cX9_stop 8 (some .int) rm E) (hrm : pz_rm X = rm) (hGX : pz_GX X G) (hOk : pz_O3 G sa md mi) (gh : gt_X3_addStop) (hr_X3_addStop : rm_X3_addStop.frames + 1 ≤ rm.frames ∧ 8 + (4 + 11) + rm_X3_addStop.locals ≤ rm.locals) : ∀ lv st g c s, (zo_cV rm 5 3 3 rm_X3_addStop.cells rm_X3_addStop.slots (pr_X3_addStop gh) (po_X3_addStop gh) (zo_kv (zo_ic 1 (1) (zo_ri rm E)))) 93 lv st g c s → pz_Z X 8 93 lv st g c s := by
  subst hrm
  exact (zs_csV hX hGX (C := RX3) (T := TX3) (N := 11) rfl (ct_X3_addStop hOk.1.1 gh) mw_fa654408 mw_d9f351e1 mw_816b5e1b mw_ad64dfa1 mw_6ada0a91 (by decide +kernel) hr_X3_addStop dX9_stop_93 (zs_kv (zs_iconst hX dX9_stop_96 (by decide) (zs_ri hR dX9_stop_97))))
def rm_X9_stop : Room := { frames := 7, cells := 5, slots := 30, locals := 120 }
abbrev gt_X9_stop : Type := (Nat × Int32 × Int32 × Int64 × Int64) × (Nat × Nat × Nat × Nat) × (Nat × Nat × Nat) × (Nat × Nat × Nat × Nat × Int32 × (Nat → Nat)) × (Nat × (Nat → lr_T) × Nat)
def pr_X9_stop (sa : Nat) : gt_X9_stop → List pz_V → pz_H → Prop := fun ((h, x, p, a, b), (nt, wy, lv, tx), (ne, nz, nw), (la, pa, na, so, fd, Wa), (nl, L, U)) av g => av = [.inr (.inr (some (h))), .inl (x), .inl (p), .inr (.inl (a)), .inr (.inl (b))] ∧ ltS g h nt wy lv tx ne nz nw ∧ ntS g nt la pa na so fd Wa ∧ nlE g la sa nl L U
def lr_last (x : lr_T) : Int32 := if lr_n x = 0 then 0 else x.2.2.2.1.2.2 (lr_n x - 1)
def stI (nl : Nat) (x p : Int32) : Prop := bdI x (nI nl) ∨ bdI p 100
def stR (a b : Int64) : Prop := bdR a 0 259200 ∨ bdR b 0 259200
def lnS (u : Nat) (b : List Nat) : Prop := b = [30, u] ∨ b = [31, u] ∨ b = [32, u] ∨ b = [33, u]
def po_X9_stop (sa : Nat) : gt_X9_stop → List pz_V → pz_H → Option pz_V → pz_H → Prop := fun ((h, x, p, a, b), (nt, wy, lv, tx), (ne, nz, nw), (la, pa, na, so, fd, Wa), (nl, L, U)) _ g v g' => ¬ stI nl x p ∧ ¬ stR a b ∧ ∃ k P A B, k < nl ∧ x = nI k ∧ P < 100 ∧ p = nI P ∧ A ≤ 259200 ∧ a = lN A ∧ B ≤ 259200 ∧ b = lN B ∧ lr_n (L k) < 12 ∧ (((a < (lr_last (L k)).toInt64 ∨ b < a) ∧ v = some (.inl 0) ∧ g' = g) ∨ (¬ (a < (lr_last (L k)).toInt64 ∨ b < a) ∧ v = some (.inl 1) ∧ hg (lnS (lr_u (L k))) g g' ∧ nlE g' la sa nl (fun i => if i = k then lr_st (nI P) (nI A) (nI B) (L i) else L i) U))
def px_X9_stop : gt_X9_stop → List pz_V → pz_H → String → pz_H → Prop := fun ((h, x, p, a, b), _, _, _, (nl, L, _)) _ g E g' => g' = g ∧ ((E = nIOB ∧ stI nl x p) ∨ (E = nIAE ∧ ¬ stI nl x p ∧ stR a b) ∨ (E = nUOE ∧ ¬ stI nl x p ∧ ¬ stR a b ∧ ∃ k, k < nl ∧ x = nI k ∧ lr_n (L k) = 12))
set_option maxRecDepth 20000 in
set_option maxHeartbeats 4000000 in
theorem ct_X9_stop {G : pz_Gx} {sa md mi : Nat} (hOk : pz_O3 G sa md mi) (gh : gt_X9_stop) : pz_MX G yX9_stop cX9_stop 8 (some .int) rm_X9_stop (pr_X9_stop sa gh) (po_X9_stop sa gh) (px_X9_stop gh) := by
  obtain ⟨⟨h, x, p, a, b⟩, ⟨nt, wy, lv, tx⟩, ⟨ne, nz, nw⟩, ⟨la, pa, na, so, fd, Wa⟩, nl, L, U⟩ := gh
  refine pz_ofZX (by decide) hOk.1.1.1 (Or.inr (Or.inl rfl)) ?_ ?_
  · rintro av g ⟨rfl, -⟩
    exact Nat.le_of_ble_eq_true rfl
  · rintro X hX hGX hrm av g ⟨rfl, hlt, hnt, hnl⟩ hR hT -
    obtain ⟨hn40, hls, hL, hinj⟩ := id hnl
    obtain ⟨h41, mc, ed, cap, o, hla, hc⟩ := id hls
    refine bX9_stop_0 hX _ _ _ _ _ ⟨_, _, _, hlt, rfl, _, _, _, hnt.1, rfl, ?_⟩
    refine bX9_stop_8 hX hrm hGX hOk (la, nI nl) (by decide) _ _ _ _ _ ⟨Nat.le_of_ble_eq_true rfl, ⟨la, [], [5], _, rfl, hla⟩, Nat.le_of_ble_eq_true rfl, Nat.le_of_ble_eq_true rfl, Nat.le_of_ble_eq_true rfl, ⟨rfl, _, _, hla, rfl⟩, ?_⟩
    rintro v g2 ⟨rfl, rfl⟩ z hz
    cases hz
    refine bX9_stop_13 hX hrm hGX hOk hT (x, nI nl) (by decide) _ _ _ _ _ ⟨Nat.le_of_ble_eq_true rfl, Nat.le_of_ble_eq_true rfl, Nat.le_of_ble_eq_true rfl, Nat.le_of_ble_eq_true rfl, rfl, ?_, ?_⟩
    · rintro E g2 ⟨rfl, rfl, hb⟩
      exact ⟨Nat.le_of_ble_eq_true rfl, Nat.le_of_ble_eq_true rfl, rfl, Or.inl ⟨rfl, Or.inl hb⟩⟩
    rintro v g3 ⟨rfl, rfl, h1⟩ -
    refine bX9_stop_19 hX hrm hGX hOk hT (p, 100) (by decide) _ _ _ _ _ ⟨Nat.le_of_ble_eq_true rfl, Nat.le_of_ble_eq_true rfl, Nat.le_of_ble_eq_true rfl, Nat.le_of_ble_eq_true rfl, rfl, ?_, ?_⟩
    · rintro E g2 ⟨rfl, rfl, hb⟩
      exact ⟨Nat.le_of_ble_eq_true rfl, Nat.le_of_ble_eq_true rfl, rfl, Or.inl ⟨rfl, Or.inr hb⟩⟩
    rintro v g4 ⟨rfl, rfl, h2⟩ -
    have hI : ¬ stI nl x p := fun e => by rcases e with e | e; exact h1 e; exact h2 e
    refine bX9_stop_27 hX hrm hGX hOk hT (a, 0, 259200) (by decide) _ _ _ _ _ ⟨Nat.le_of_ble_eq_true rfl, Nat.le_of_ble_eq_true rfl, Nat.le_of_ble_eq_true rfl, Nat.le_of_ble_eq_true rfl, rfl, ?_, ?_⟩
    · rintro E g2 ⟨rfl, rfl, hb⟩
      exact ⟨Nat.le_of_ble_eq_true rfl, Nat.le_of_ble_eq_true rfl, rfl, Or.inr (Or.inl ⟨rfl, hI, Or.inl hb⟩)⟩
    rintro v g5 ⟨rfl, rfl, h3⟩ -
    refine bX9_stop_36 hX hrm hGX hOk hT (b, 0, 259200) (by decide) _ _ _ _ _ ⟨Nat.le_of_ble_eq_true rfl, Nat.le_of_ble_eq_true rfl, Nat.le_of_ble_eq_true rfl, Nat.le_of_ble_eq_true rfl, rfl, ?_, ?_⟩
    · rintro E g2 ⟨rfl, rfl, hb⟩
      exact ⟨Nat.le_of_ble_eq_true rfl, Nat.le_of_ble_eq_true rfl, rfl, Or.inr (Or.inl ⟨rfl, hI, Or.inr hb⟩)⟩
    rintro v g6 ⟨rfl, rfl, h4⟩ -
    have hRg : ¬ stR a b := fun e => by rcases e with e | e; exact h3 e; exact h4 e
    obtain ⟨k, hk, rfl⟩ := bI_nI (b := nl) (by omega) h1
    obtain ⟨P, hP, rfl⟩ := bI_nI (b := 100) (by omega) h2
    obtain ⟨A, hA, rfl⟩ := bR_nI (b := 259200) (by omega) h3
    obtain ⟨B, hB, rfl⟩ := bR_nI (b := 259200) (by omega) h4
    refine ⟨_, _, _, hlt, rfl, _, _, _, hnt.1, rfl, ?_⟩
    refine bX9_stop_47 hX hrm hGX hOk (la, k, [5], [6], nl, fun i => lr_h (L i)) (by decide) _ _ _ _ _ ⟨Nat.le_of_ble_eq_true rfl, ⟨la, [.inl (nI k)], [5], _, rfl, hla⟩, Nat.le_of_ble_eq_true rfl, Nat.le_of_ble_eq_true rfl, Nat.le_of_ble_eq_true rfl, ⟨rfl, hk, lsE_S hls⟩, ?_⟩
    rintro v g7 ⟨rfl, rfl⟩ z hz
    cases hz
    obtain ⟨hok, ⟨rn, At, Bt, htk⟩, huk⟩ := hL k hk
    rcases hLk : L k with ⟨⟨u, hq⟩, ⟨La, Ra, Rd⟩, ⟨wd, n, dw, lw⟩, ⟨f1, f2, f3⟩, dl, ll⟩
    rw [hLk] at hok htk
    obtain ⟨o1, o2, o3, o4, o5, o6, o7⟩ := id hok
    obtain ⟨c0, c1, c2, c3, ⟨q8, c8, d8⟩, q9, c9, d9⟩ := id o2
    have eh : lr_h (L k) = hq := by rw [hLk]
    have elast : lr_last (L k) = if n = 0 then 0 else f3 (n - 1) := by rw [hLk]; rfl
    have en : lr_n (L k) = n := by rw [hLk]
    have eu : lr_u (L k) = u := by rw [hLk]
    refine ⟨_, _, (by show g7 (lr_h (L k)) = _; rw [eh]; exact c0), ?_⟩
    show pz_Z X 8 59 [(7, .inr (.inr (some (lr_h (L k))))), (0, .inr (.inr (some (h)))), (1, .inl (nI k)), (2, .inl (nI P)), (3, .inr (.inl (lN A))), (5, .inr (.inl (lN B)))] [.inr (.inr (some (lr_h (L k))))] g7 4 24
    rw [eh]
    refine bX9_stop_59 hX hrm hGX hOk (hq, nI n) (by decide) _ _ _ _ _ ⟨Nat.le_of_ble_eq_true rfl, ⟨hq, [], [30, u], _, rfl, c0⟩, Nat.le_of_ble_eq_true rfl, Nat.le_of_ble_eq_true rfl, Nat.le_of_ble_eq_true rfl, ⟨rfl, _, _, c0, rfl⟩, ?_⟩
    rintro v g8 ⟨rfl, rfl⟩ z hz hz01
    cases hz
    refine bX9_stop_62 hX hrm hGX hOk hT (if nI n < 12 then 1 else 0) (by decide) _ _ _ _ _ ⟨Nat.le_of_ble_eq_true rfl, Nat.le_of_ble_eq_true rfl, Nat.le_of_ble_eq_true rfl, Nat.le_of_ble_eq_true rfl, rfl, ?_, ?_⟩
    · rintro E g2 ⟨rfl, rfl, hb⟩
      refine ⟨Nat.le_of_ble_eq_true rfl, Nat.le_of_ble_eq_true rfl, rfl, Or.inr (Or.inr ⟨rfl, hI, hRg, k, hk, rfl, ?_⟩)⟩
      rw [en]
      by_cases hn : nI n < 12
      · rw [if_pos hn] at hb; exact absurd hb (by decide)
      · have : ¬ n < 12 := fun e => hn ((ni_lt (b := 12) (by omega) (by omega)).mpr e)
        omega
    rintro v g9 ⟨rfl, rfl, h5⟩ -
    have hn12 : n < 12 := by
      by_cases hn : nI n < 12
      · exact (ni_lt (b := 12) (by omega) (by omega)).mp hn
      · rw [if_neg hn] at h5; exact absurd rfl h5
    refine bX9_stop_68 hX hrm hGX hOk (hq, n, f3) (by decide) _ _ _ _ _ ⟨Nat.le_of_ble_eq_true rfl, ⟨hq, [], [30, u], _, rfl, c0⟩, Nat.le_of_ble_eq_true rfl, Nat.le_of_ble_eq_true rfl, Nat.le_of_ble_eq_true rfl, ⟨rfl, o1, _, _, _, _, c0, rfl, rfl, c3⟩, ?_⟩
    rintro v g10 ⟨rfl, rfl⟩ z hz
    cases hz
    rw [← elast]
    have no : (lN A < (lr_last (L k)).toInt64 ∨ lN B < lN A) → pz_Z X 8 83 [(7, .inr (.inr (some (hq)))), (0, .inr (.inr (some (h)))), (1, .inl (nI k)), (2, .inl (nI P)), (3, .inr (.inl (lN A))), (5, .inr (.inl (lN B)))] [] g10 5 30 := fun hno => bX9_stop_83 hX hR _ _ _ _ _ ⟨Nat.le_of_ble_eq_true rfl, Nat.le_of_ble_eq_true rfl, hI, hRg, k, P, A, B, hk, rfl, hP, rfl, hA, rfl, hB, rfl, by omega, Or.inl ⟨hno, rfl, rfl⟩⟩
    refine ⟨fun q => ?_, fun q => ?_⟩
    · exact no (Or.inl ((lc_lt _ _).mp q))
    refine bX9_stop_76 hX _ _ _ _ _ ⟨fun q2 => ?_, fun q2 => ?_⟩
    rotate_left
    · exact no (Or.inr (Int64.not_le.mp (fun e => q2 ((lc_ge _ _).mpr e))))
    have hyes : ¬ (lN A < (lr_last (L k)).toInt64 ∨ lN B < lN A) := fun e => by
      rcases e with e | e
      · exact q ((lc_lt _ _).mpr e)
      · exact Int64.not_le.mpr e ((lc_ge _ _).mp q2)
    refine bX9_stop_85 hX _ _ _ _ _ ?_
    show pz_Z X 8 93 [(7, .inr (.inr (some (hq)))), (0, .inr (.inr (some (h)))), (1, .inl (nI k)), (2, .inl (nI P)), (3, .inr (.inl (lN A))), (5, .inr (.inl (lN B)))] [.inl ((lN B).toInt32), .inl ((lN A).toInt32), .inl (nI P), .inr (.inr (some (hq)))] g10 5 30
    rw [lN_i, lN_i]
    refine bX9_stop_93 hX hR hrm hGX hOk (hq, (nI P, nI A, nI B), ([30, u], _), n, (La 1, La 2, La 3), ([31, u], [32, u], [33, u]), f1, f2, f3) (by decide) _ _ _ _ _ ⟨Nat.le_of_ble_eq_true rfl, ⟨hq, [.inl (nI P), .inl (nI A), .inl (nI B)], [30, u], _, rfl, c0⟩, Nat.le_of_ble_eq_true rfl, Nat.le_of_ble_eq_true rfl, Nat.le_of_ble_eq_true rfl, ⟨rfl, o1, c0, rfl, rfl, rfl, rfl, c1, c2, c3, by simp, by simp, by simp, by simp, by simp, by simp⟩, ?_⟩
    rintro v g11 ⟨rfl, hc⟩ -
    rcases hc with ⟨e12, _⟩ | ⟨-, hg11, k0, k1, k2, k3⟩
    · omega
    have hsub : ∀ b, (b = [30, u] ∨ b = [31, u] ∨ b = [32, u] ∨ b = [33, u]) → lnS (lr_u (L k)) b := fun b hb => by rw [eu]; exact hb
    refine ⟨Nat.le_of_ble_eq_true rfl, Nat.le_of_ble_eq_true rfl, hI, hRg, k, P, A, B, hk, rfl, hP, rfl, hA, rfl, hB, rfl, by omega, Or.inr ⟨hyes, rfl, hg_mono hg11 hsub, ?_⟩⟩
    refine nlE_up hg11 (by simp) hk (fun x u' r e => ?_) hnl (lr_st (nI P) (nI A) (nI B)) ?_ ?_ ?_
    · rw [eu]; simp at e; rcases e with e | e | e | e <;> exact e.2.1
    · rw [hLk]; exact ⟨rfl, rfl⟩
    · rw [hLk]
      refine ⟨hn12, ⟨k0, k1, k2, k3, ⟨q8, hg11 _ _ _ c8 (by simp), d8⟩, q9, hg11 _ _ _ c9 (by simp), d9⟩, dw_mono hg11 (by simp) _ _ o3, o4, lt_mono hg11 (by simp) _ _ o5, o6, fun j hj => ?_⟩
      by_cases hjn : j = n
      · exact ⟨P, hP, by rw [hjn, pk_us]⟩
      · obtain ⟨p', h1, h2⟩ := o7 j (by omega)
        exact ⟨p', h1, by rw [pk_un hjn]; exact h2⟩
    · rw [hLk]
      refine ⟨rn, At, Bt, ?_⟩
      have := lrT_mono hg11 _ (by simp) htk
      exact this
