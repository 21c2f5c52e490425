/-! LineTimes: read -/
set_option maxRecDepth 20000 in
theorem bX9_read_0 {X : pz_C} (hX : pz_X X cX9_read 3 RX9) : ∀ lv st g c s, (zo_al 1 0 (zo_get 11 3 (zo_ic 2 (40) (zo_al 1 0 (zo_get 11 0 (zo_get 6 0 (pz_Z X 3))))))) 0 lv st g c s → pz_Z X 3 0 lv st g c s := (zs_aload_n hX dX9_read_0 rfl (zs_get hX (C := RX9) (T := TX9) (N := 7) rfl in_X9 (by decide) mw_303e20cf dX9_read_1 (zs_bipush hX dX9_read_4 (by decide) (zs_aload_n hX dX9_read_6 rfl (zs_get hX (C := RX9) (T := TX9) (N := 7) rfl in_X9 (by decide) mw_a7a80db5 dX9_read_7 (zs_get hX (C := RX4) (T := TX4) (N := 5) rfl in_X4 (by decide) mw_2e6b86cc dX9_read_10 (fun _ _ _ _ _ h => h)))))))
set_option maxRecDepth 20000 in
theorem bX9_read_13 {X : pz_C} {G : pz_Gx} {sa md mi : Nat} {rm : Room} (hX : pz_X X cX9_read 3 RX9) (hrm : pz_rm X = rm) (hGX : pz_GX X G) (hOk : pz_O2 G sa md mi) (gh : gt_Jx4a65c_size_8abf5) (hr_Jx4a65c_size_8abf5 : rm_Jx4a65c_size_8abf5.frames + 1 ≤ rm.frames ∧ 8 + (1 + 11) + rm_Jx4a65c_size_8abf5.locals ≤ rm.locals) : ∀ lv st g c s, (zo_cV rm 1 0 5 rm_Jx4a65c_size_8abf5.cells rm_Jx4a65c_size_8abf5.slots (pr_Jx4a65c_size_8abf5 gh) (po_Jx4a65c_size_8abf5 gh) (zo_ki (zo_isub (pz_Z X 3)))) 13 lv st g c s → pz_Z X 3 13 lv st g c s := by
  subst hrm
  exact (zs_csF hX hGX (C := RJx4a65c) (T := TJx4a65c) (N := 3) rfl (ct_Jx4a65c_size_8abf5 hOk.1 gh) (hOk.1.2.1) mw_54f589cd mw_e0c83bb7 mw_8c7bf081 mw_dd3bf01c mw_d1eac4b0 (by decide +kernel) hr_Jx4a65c_size_8abf5 dX9_read_13 (zs_ki (zs_isub hX dX9_read_18 (fun _ _ _ _ _ h => h))))
set_option maxRecDepth 20000 in
theorem bX9_read_19 {X : pz_C} {G : pz_Gx} {sa md mi : Nat} {rm : Room} (hX : pz_X X cX9_read 3 RX9) (hrm : pz_rm X = rm) (hGX : pz_GX X G) (hOk : pz_O2 G sa md mi) (gh : gt_X6_parse) (hr_X6_parse : (rm_X6_parse gh).frames + 1 ≤ rm.frames ∧ 8 + (3 + 11) + (rm_X6_parse gh).locals ≤ rm.locals) : ∀ lv st g c s, (zo_cV rm 8 1 3 (rm_X6_parse gh).cells (rm_X6_parse gh).slots (pr_X6_parse sa gh) (po_X6_parse sa gh) (zo_ki (zo_is 1 1 (zo_il 1 1 (zo_if_le 80 (pz_Z X 3)))))) 19 lv st g c s → pz_Z X 3 19 lv st g c s := by
  subst hrm
  exact (zs_csV hX hGX (C := RX6) (T := TX6) (N := 6) rfl (ct_X6_parse hOk gh) mw_2a956826 mw_8f10d46d mw_423d9463 mw_59af5b5a mw_5a353f8f (by decide +kernel) hr_X6_parse dX9_read_19 (zs_ki (zs_istore_n hX dX9_read_22 rfl (by decide) (zs_iload_n hX dX9_read_23 rfl (zs_if_le hX dX9_read_24 (by decide) (fun _ _ _ _ _ _ h => h))))))
set_option maxRecDepth 20000 in
theorem bX9_read_27 {X : pz_C} (hX : pz_X X cX9_read 3 RX9) : ∀ lv st g c s, (zo_ic 1 (0) (zo_is 1 2 (pz_Z X 3))) 27 lv st g c s → pz_Z X 3 27 lv st g c s := (zs_iconst hX dX9_read_27 (by decide) (zs_istore_n hX dX9_read_28 rfl (by decide) (fun _ _ _ _ _ h => h)))
set_option maxRecDepth 20000 in
theorem bX9_read_29 {X : pz_C} (hX : pz_X X cX9_read 3 RX9) : ∀ lv st g c s, (zo_il 1 2 (zo_al 1 0 (zo_get 11 3 (zo_get 8 0 (pz_Z X 3))))) 29 lv st g c s → pz_Z X 3 29 lv st g c s := (zs_iload_n hX dX9_read_29 rfl (zs_aload_n hX dX9_read_30 rfl (zs_get hX (C := RX9) (T := TX9) (N := 7) rfl in_X9 (by decide) mw_303e20cf dX9_read_31 (zs_get hX (C := RX6) (T := TX6) (N := 6) rfl in_X6 (by decide) mw_7fc69645 dX9_read_34 (fun _ _ _ _ _ h => h)))))
set_option maxRecDepth 20000 in
theorem bX9_read_37 {X : pz_C} {G : pz_Gx} {sa md mi : Nat} {rm : Room} (hX : pz_X X cX9_read 3 RX9) (hrm : pz_rm X = rm) (hGX : pz_GX X G) (hOk : pz_O2 G sa md mi) (gh : gt_Jx4a65c_size_8abf5) (hr_Jx4a65c_size_8abf5 : rm_Jx4a65c_size_8abf5.frames + 1 ≤ rm.frames ∧ 8 + (1 + 11) + rm_Jx4a65c_size_8abf5.locals ≤ rm.locals) : ∀ lv st g c s, (zo_cV rm 1 0 5 rm_Jx4a65c_size_8abf5.cells rm_Jx4a65c_size_8abf5.slots (pr_Jx4a65c_size_8abf5 gh) (po_Jx4a65c_size_8abf5 gh) (zo_ki (zo_ic_ge 80 (pz_Z X 3)))) 37 lv st g c s → pz_Z X 3 37 lv st g c s := by
  subst hrm
  exact (zs_csF hX hGX (C := RJx4a65c) (T := TJx4a65c) (N := 3) rfl (ct_Jx4a65c_size_8abf5 hOk.1 gh) (hOk.1.2.1) mw_54f589cd mw_e0c83bb7 mw_8c7bf081 mw_dd3bf01c mw_d1eac4b0 (by decide +kernel) hr_Jx4a65c_size_8abf5 dX9_read_37 (zs_ki (zs_ic_ge hX dX9_read_42 (by decide) (fun _ _ _ _ _ _ h => h))))
set_option maxRecDepth 20000 in
theorem bX9_read_45 {X : pz_C} (hX : pz_X X cX9_read 3 RX9) : ∀ lv st g c s, (zo_al 1 0 (zo_get 11 0 (zo_get 6 0 (zo_al 1 0 (zo_get 11 3 (zo_get 8 0 (zo_il 1 2 (pz_Z X 3)))))))) 45 lv st g c s → pz_Z X 3 45 lv st g c s := (zs_aload_n hX dX9_read_45 rfl (zs_get hX (C := RX9) (T := TX9) (N := 7) rfl in_X9 (by decide) mw_a7a80db5 dX9_read_46 (zs_get hX (C := RX4) (T := TX4) (N := 5) rfl in_X4 (by decide) mw_2e6b86cc dX9_read_49 (zs_aload_n hX dX9_read_52 rfl (zs_get hX (C := RX9) (T := TX9) (N := 7) rfl in_X9 (by decide) mw_303e20cf dX9_read_53 (zs_get hX (C := RX6) (T := TX6) (N := 6) rfl in_X6 (by decide) mw_7fc69645 dX9_read_56 (zs_iload_n hX dX9_read_59 rfl (fun _ _ _ _ _ h => h))))))))
set_option maxRecDepth 20000 in
theorem bX9_read_60 {X : pz_C} {G : pz_Gx} {sa md mi : Nat} {rm : Room} (hX : pz_X X cX9_read 3 RX9) (hrm : pz_rm X = rm) (hGX : pz_GX X G) (hOk : pz_O2 G sa md mi) (gh : gt_Jx4a65c_get_915e3) (hr_Jx4a65c_get_915e3 : rm_Jx4a65c_get_915e3.frames + 1 ≤ rm.frames ∧ 8 + (2 + 11) + rm_Jx4a65c_get_915e3.locals ≤ rm.locals) : ∀ lv st g c s, (zo_cV rm 1 1 5 rm_Jx4a65c_get_915e3.cells rm_Jx4a65c_get_915e3.slots (pr_Jx4a65c_get_915e3 gh) (po_Jx4a65c_get_915e3 gh) (zo_kr (zo_cast1 5 (pz_Z X 3)))) 60 lv st g c s → pz_Z X 3 60 lv st g c s := by
  subst hrm
  exact (zs_csF hX hGX (C := RJx4a65c) (T := TJx4a65c) (N := 3) rfl (ct_Jx4a65c_get_915e3 hOk.1 gh) (hOk.1.2.2.1) mw_fdee3bb6 mw_50a82afc mw_e81a0f1b mw_dd3bf01c mw_817361af (by decide +kernel) hr_Jx4a65c_get_915e3 dX9_read_60 (zs_kr (by first | exact Or.inl ⟨_, rfl⟩ | exact Or.inr ⟨_, rfl⟩) (zs_cast1 hX (C := RX3) (T := TX3) (N := 11) rfl mw_78b2f1f9 dX9_read_65 (fun _ _ _ _ _ h => h))))
set_option maxRecDepth 20000 in
theorem bX9_read_68 {X : pz_C} {G : pz_Gx} {sa md mi : Nat} {rm : Room} (hX : pz_X X cX9_read 3 RX9) (hrm : pz_rm X = rm) (hGX : pz_GX X G) (hOk : pz_O2 G sa md mi) (gh : gt_Jx4a65c_add_9ea2d) (hr_Jx4a65c_add_9ea2d : rm_Jx4a65c_add_9ea2d.frames + 1 ≤ rm.frames ∧ 8 + (2 + 11) + rm_Jx4a65c_add_9ea2d.locals ≤ rm.locals) : ∀ lv st g c s, (zo_cV rm 1 1 5 rm_Jx4a65c_add_9ea2d.cells rm_Jx4a65c_add_9ea2d.slots (pr_Jx4a65c_add_9ea2d sa gh) (po_Jx4a65c_add_9ea2d sa gh) (zo_kz (zo_pop (zo_inc 2 (1) (zo_goto 29 (pz_Z X 3)))))) 68 lv st g c s → pz_Z X 3 68 lv st g c s := by
  subst hrm
  exact (zs_csF hX hGX (C := RJx4a65c) (T := TJx4a65c) (N := 3) rfl (ct_Jx4a65c_add_9ea2d hOk gh) (hOk.1.2.2.2.1) mw_deed4cf9 mw_40c6a661 mw_4686a889 mw_dd3bf01c mw_b7383cc8 (by decide +kernel) hr_Jx4a65c_add_9ea2d dX9_read_68 (zs_kz (zs_pop hX dX9_read_73 (zs_iinc hX dX9_read_74 (by decide) (by decide) (zs_goto hX dX9_read_77 (by decide) (fun _ _ _ _ _ _ h => h))))))
set_option maxRecDepth 20000 in
theorem bX9_read_80 {X : pz_C} (hX : pz_X X cX9_read 3 RX9) : ∀ lv st g c s, (zo_al 1 0 (zo_get 11 3 (pz_Z X 3))) 80 lv st g c s → pz_Z X 3 80 lv st g c s := (zs_aload_n hX dX9_read_80 rfl (zs_get hX (C := RX9) (T := TX9) (N := 7) rfl in_X9 (by decide) mw_303e20cf dX9_read_81 (fun _ _ _ _ _ h => h)))
set_option maxRecDepth 20000 in
theorem bX9_read_84 {X : pz_C} {G : pz_Gx} {sa md mi : Nat} {rm : Room} {E : Option pz_V → pz_H → Prop} (hX : pz_X X cX9_read 3 RX9) (hR : pz_Rt X cX9_read 3 (some .int) rm E) (hrm : pz_rm X = rm) (hGX : pz_GX X G) (hOk : pz_O2 G sa md mi) (gh : gt_X6_clear) (hr_X6_clear : rm_X6_clear.frames + 1 ≤ rm.frames ∧ 8 + (1 + 11) + rm_X6_clear.locals ≤ rm.locals) : ∀ lv st g c s, (zo_cV rm 8 0 3 rm_X6_clear.cells rm_X6_clear.slots (pr_X6_clear gh) (po_X6_clear gh) (zo_kv (zo_il 1 1 (zo_ri rm E)))) 84 lv st g c s → pz_Z X 3 84 lv st g c s := by
  subst hrm
  exact (zs_csV hX hGX (C := RX6) (T := TX6) (N := 6) rfl (ct_X6_clear hOk.1 gh) mw_45257536 mw_6b500e7c mw_1dc4c4ca mw_59af5b5a mw_f6dce7b4 (by decide +kernel) hr_X6_clear dX9_read_84 (zs_kv (zs_iload_n hX dX9_read_87 rfl (zs_ri hR dX9_read_88))))
abbrev gt_X9_read : Type := Nat × (Nat × Nat × Nat × Nat) × (Nat × Nat × Nat) × (Nat × Nat × Nat × Nat × Int32 × (Nat → Nat)) × (Nat × (Nat → lr_T) × Nat) × ((Nat × Nat × Nat × Nat) × (Int32 × Int32) × (Nat → Int32) × (Nat → Nat) × (Nat → cl_D))
def rm_X9_read : gt_X9_read → Room := fun (_, _, _, _, _, ((_, _, len, _), _)) => { frames := 10, cells := 35 * len + 40, slots := 471 * len + 2440, locals := 234 }
def rdSc (U : Nat) : List Nat → Prop := fun b => trSc U b ∨ b = [5] ∨ b = [6]
def pr_X9_read (sa : Nat) : gt_X9_read → List pz_V → pz_H → Prop := fun (h, (nt, wy, lv, tx), (ne, nz, nw), (la, pa, na, so, fd, Wa), (nl, L, U), ((cm, sg, len, at'), (fa, ro), cf, hl, D)) av g => av = [.inr (.inr (some (h)))] ∧ len ≤ 500 ∧ ltS g h nt wy lv tx ne nz nw ∧ ntS g nt la pa na so fd Wa ∧ nlE g la sa nl L U ∧ txS g tx cm sg len at' fa ro cf ∧ lsE g cm [7] [8] sa 0 hl
def rdV (s : tp_T) : Int32 := if s.1.2 = -1 then nI s.2.1 else -1 - s.1.2
def rdN (s : tp_T) : Nat := if s.1.2 = -1 then s.2.1 else 0
def rdP (sa : Nat) (g' : pz_H) (s : tp_T) (la nl : Nat) (L : Nat → lr_T) (U : Nat) : Prop := ∃ L' U', U ≤ U' ∧ (∀ j, j < nl → L' j = L j) ∧ (∀ i, i < rdN s → clK (L' (nl + i)) (s.2.2 i)) ∧ nlE g' la sa (nl + rdN s) L' U'
def po_X9_read (sa : Nat) : gt_X9_read → List pz_V → pz_H → Option pz_V → pz_H → Prop := fun (h, (nt, wy, lv, tx), (ne, nz, nw), (la, pa, na, so, fd, Wa), (nl, L, U), ((cm, sg, len, at'), (fa, ro), cf, hl, D)) _ g v g' => v = some (.inl (rdV (tp_0 len cf (40 - nl) D))) ∧ hg (rdSc U) g g' ∧ (∃ at' fa ro, txS g' tx cm sg 0 at' fa ro cf) ∧ (∃ hl, lsE g' cm [7] [8] sa 0 hl) ∧ rdP sa g' (tp_0 len cf (40 - nl) D) la nl L U
set_option maxRecDepth 20000 in
set_option maxHeartbeats 8000000 in
theorem ct_X9_read {G : pz_Gx} {sa md mi : Nat} (hOk : pz_O2 G sa md mi) (gh : gt_X9_read) : pz_M G yX9_read cX9_read 3 (some .int) (rm_X9_read gh) (pr_X9_read sa gh) (po_X9_read sa gh) := by
  obtain ⟨h, ⟨nt, wy, lv, tx⟩, ⟨ne, nz, nw⟩, ⟨la, pa, na, so, fd, Wa⟩, ⟨nl, L, U⟩, ⟨cm, sg, len, at'⟩, ⟨fa, ro⟩, cf, hl, D⟩ := gh
  refine pz_ofZ (by decide) hOk.1.1 (Or.inr (Or.inl rfl)) ?_ ?_
  · rintro av g ⟨rfl, -⟩
    exact Nat.le_of_ble_eq_true rfl
  · rintro X hX hGX hrm - av g ⟨rfl, hlen, hlt, hnt, hnl, hts, hcm⟩ hR
    generalize hrr : rm_X9_read (h, (nt, wy, lv, tx), (ne, nz, nw), (la, pa, na, so, fd, Wa), (nl, L, U), ((cm, sg, len, at'), (fa, ro), cf, hl, D)) = rr at hrm hR
    have hF : ∀ {a b : Nat}, Nat.ble a 10 = true → Nat.ble b 234 = true → a ≤ rr.frames ∧ b ≤ rr.locals := fun h1 h2 => by rw [← hrr]; exact ⟨Nat.le_of_ble_eq_true h1, Nat.le_of_ble_eq_true h2⟩
    have hC : ∀ {a : Nat}, a ≤ 40 → 35 * len + a ≤ rr.cells := fun h1 => by rw [← hrr]; show _ ≤ 35 * len + 40; omega
    have hS : ∀ {a : Nat}, a ≤ 40 → 471 * len + 61 * a ≤ rr.slots := fun h1 => by rw [← hrr]; show _ ≤ 471 * len + 2440; omega
    obtain ⟨hn40, hls, hL, hinj⟩ := id hnl
    obtain ⟨h41, mc, ed, cap, o, hla, hc⟩ := id hls
    have hA0 : rdA g nl L U := hL
    refine bX9_read_0 hX _ _ _ _ _ ⟨_, _, _, hlt, rfl, _, _, _, hlt, rfl, _, _, _, hnt.1, rfl, ?_⟩
    refine bX9_read_13 hX hrm hGX hOk (la, nI nl) (hF rfl rfl) _ _ _ _ _ ⟨Nat.le_of_ble_eq_true rfl, ⟨la, [], [5], _, rfl, hla⟩, Nat.zero_le _, Nat.zero_le _, Nat.le_of_ble_eq_true rfl, ⟨rfl, _, _, hla, rfl⟩, ?_⟩
    rintro v g2 ⟨rfl, rfl⟩ z hz
    cases hz
    show pz_Z X 3 19 [(0, .inr (.inr (some (h))))] [.inl ((40 : Int32) - nI nl), .inr (.inr (some (tx)))] g2 0 0
    rw [ni_40 nl (by omega)]
    refine bX9_read_19 hX hrm hGX hOk (tx, (cm, sg, len, at'), (fa, ro, 40 - nl), cf, (0, hl), D, U) (hF rfl rfl) _ _ _ _ _ ⟨Nat.le_of_ble_eq_true rfl, ⟨tx, [.inl (nI (40 - nl))], [4], _, rfl, hts.1⟩, ?_, ?_, Nat.le_of_ble_eq_true rfl, ⟨rfl, by omega, hlen, hts, hcm⟩, ?_⟩
    · show 0 + 35 * len ≤ _
      exact Nat.le_trans (by omega) (hC (a := 0) (by omega))
    · show 0 + 471 * len ≤ _
      exact Nat.le_trans (by omega) (hS (a := 0) (by omega))
    rintro v g3 ⟨rfl, t3, K, U', hU, hx3, -, -, -, hK3⟩ z hz
    cases hz
    have bd := tp_bd (len := len) (room := 40 - nl) (cf := cf) (D := D) hlen (by omega)
    show (_ → _) ∧ _
    generalize hs : tp_0 len cf (40 - nl) D = s at *
    obtain ⟨⟨a1, f1⟩, m, D'⟩ := s
    dsimp only at hx3 hK3 bd
    have hlt3 : ltS g3 h nt wy lv tx ne nz nw := t3 _ _ _ hlt (by simp [trSc])
    have hnt3 := ntS_mono t3 (by simp [trSc]) hnt
    have hls3 := lsE_mono t3 (by simp [trSc]) hls
    have hA3 := rdA_mono t3 (fun u hu b hb x r e => by
      rcases hb with hb | hb | hb | ⟨u', hu', hb⟩
      · rw [hb] at e; injection e with _ e; injection e
      · rw [hb] at e; injection e with _ e; injection e
      · rw [hb] at e; injection e with _ e; injection e
      · rcases hb with hb | hb | hb | hb <;> (rw [hb] at e; injection e with _ e; injection e with e; omega)) hA0
    -- the end
    have fin : ∀ (gk : pz_H) (i : Nat) (lvx : List (Nat × pz_V)), i ≤ m → nl + i ≤ 40 → rdN ((a1, f1), m, D') = i → hg (rdSc U) g2 gk → ltS gk h nt wy lv tx ne nz nw → txS gk tx cm sg len a1 f1 (nI (40 - nl)) cf → rdA gk nl L U → lsE gk la [5] [6] sa (nl + i) (fun j => lr_h (lkj nl L K j)) → cmS gk cm sa m K D' U U' → (lvx = [] ∨ ∃ x, lvx = [(2, x)]) → pz_Z X 3 80 (lvx ++ [(1, .inl (rdV ((a1, f1), m, D'))), (0, .inr (.inr (some (h))))]) [] gk (35 * len + i) (471 * len + 61 * i) := by
      intro gk i lvx him h40 hN hgk hltk hxk hAk hlk hck hlv
      have hnlk := rd_nl h40 him hU hlk hAk hinj hck
      have body : ∀ lvv, (lvv = [(1, .inl (rdV ((a1, f1), m, D'))), (0, .inr (.inr (some (h))))] ∨ ∃ x, lvv = [(2, x), (1, .inl (rdV ((a1, f1), m, D'))), (0, .inr (.inr (some (h))))]) → pz_Z X 3 80 lvv [] gk (35 * len + i) (471 * len + 61 * i) := by
        rintro lvv (rfl | ⟨x, rfl⟩)
        all_goals
          refine bX9_read_80 hX _ _ _ _ _ ⟨_, _, _, hltk, rfl, ?_⟩
          refine bX9_read_84 hX hR hrm hGX hOk (tx, (cm, sg, len, a1), (f1, nI (40 - nl)), cf, sa, m, fun i => lr_h (K i)) (hF rfl rfl) _ _ _ _ _ ⟨Nat.le_of_ble_eq_true rfl, ⟨tx, [], [4], _, rfl, hxk.1⟩, hC (by omega), hS (by omega), Nat.le_of_ble_eq_true rfl, ⟨rfl, hxk, hck.1⟩, ?_⟩
          rintro v g5 ⟨rfl, t5, hx5, hl5⟩ -
          have n5 : ∀ b : List Nat, b ≠ [4] → b ≠ [7] → b ≠ [8] → ¬ (b = [4] ∨ b = [7] ∨ b = [8]) := fun b a1 a2 a3 h => by rcases h with h | h | h; exact a1 h; exact a2 h; exact a3 h
          have hnl5 := nlE_mono t5 ⟨n5 _ (by decide) (by decide) (by decide), n5 _ (by decide) (by decide) (by decide), n5 _ (by decide) (by decide) (by decide)⟩ (fun u _ b hb x r e => by rcases hb with hb | hb | hb <;> (rw [hb] at e; injection e with _ e; injection e)) hnlk
          refine ⟨hC (by omega), hS (by omega), ?_⟩
          unfold po_X9_read
          dsimp only
          rw [hs]
          refine ⟨rfl, hg_tr hgk (hg_mono t5 (fun b hb => Or.inl ?_)), ⟨_, _, _, hx5⟩, ⟨_, hl5⟩, lkj nl L K, U', hU, fun j hj => if_pos hj, fun j hj => ?_, ?_⟩
          · rcases hb with hb | hb | hb
            · exact Or.inl hb
            · exact Or.inr (Or.inl hb)
            · exact Or.inr (Or.inr (Or.inl hb))
          · rw [hN] at hj
            have e : lkj nl L K (nl + j) = K j := by
              unfold lkj
              rw [if_neg (by omega), show nl + j - nl = j by omega]
            rw [e]
            exact (hck.2.1 j (by omega)).2.2.1
          · rw [hN]; exact hnl5
      rcases hlv with rfl | ⟨x, rfl⟩
      · exact body _ (Or.inl rfl)
      · exact body _ (Or.inr ⟨x, rfl⟩)
    have hl0 : lsE g3 la [5] [6] sa (nl + 0) (fun j => lr_h (lkj nl L K j)) := lsE_congr (fun j hj => by show lr_h (L j) = lr_h (lkj nl L K j); unfold lkj; rw [if_pos (by omega)]) hls3
    have hg3 : hg (rdSc U) g2 g3 := hg_mono t3 (fun b hb => Or.inl hb)
    have loop : f1 = -1 → nl + m ≤ 40 → ∀ (k i : Nat) (gk : pz_H), i + k = m → hg (rdSc U) g2 gk → ltS gk h nt wy lv tx ne nz nw → ntS gk nt la pa na so fd Wa → txS gk tx cm sg len a1 f1 (nI (40 - nl)) cf → rdA gk nl L U → lsE gk la [5] [6] sa (nl + i) (fun j => lr_h (lkj nl L K j)) → cmS gk cm sa m K D' U U' → pz_Z X 3 29 [(2, .inl (nI i)), (1, .inl (rdV ((a1, f1), m, D'))), (0, .inr (.inr (some (h))))] [] gk (35 * len + i) (471 * len + 61 * i) := by
      intro hf1 h40 k
      induction k with
      | zero =>
        intro i gk hi hgk hltk hntk hxk hAk hlk hck
        obtain ⟨_, mc', ed', cap', o', hcm', _⟩ := id hck.1
        refine bX9_read_29 hX _ _ _ _ _ ⟨_, _, _, hltk, rfl, _, _, _, hxk.1, rfl, ?_⟩
        refine bX9_read_37 hX hrm hGX hOk (cm, nI m) (hF rfl rfl) _ _ _ _ _ ⟨Nat.le_of_ble_eq_true rfl, ⟨cm, [], [7], _, rfl, hcm'⟩, hC (by omega), hS (by omega), Nat.le_of_ble_eq_true rfl, ⟨rfl, _, _, hcm', rfl⟩, ?_⟩
        rintro v g5 ⟨rfl, rfl⟩ z hz
        cases hz
        refine ⟨fun _ => ?_, fun q => absurd ((ni_le (by omega) (by omega)).mpr (by omega)) q⟩
        exact fin g5 i [(2, .inl (nI i))] (by omega) (by omega) (by show (if f1 = -1 then m else 0) = i; rw [if_pos hf1]; omega) hgk hltk hxk hAk hlk hck (Or.inr ⟨_, rfl⟩)
      | succ k ih =>
        intro i gk hi hgk hltk hntk hxk hAk hlk hck
        obtain ⟨_, mc', ed', cap', o', hcm', _⟩ := id hck.1
        obtain ⟨_, mc2, ed2, cap2, o2, hla2, _⟩ := id hlk
        refine bX9_read_29 hX _ _ _ _ _ ⟨_, _, _, hltk, rfl, _, _, _, hxk.1, rfl, ?_⟩
        refine bX9_read_37 hX hrm hGX hOk (cm, nI m) (hF rfl rfl) _ _ _ _ _ ⟨Nat.le_of_ble_eq_true rfl, ⟨cm, [], [7], _, rfl, hcm'⟩, hC (by omega), hS (by omega), Nat.le_of_ble_eq_true rfl, ⟨rfl, _, _, hcm', rfl⟩, ?_⟩
        rintro v g5 ⟨rfl, rfl⟩ z hz
        cases hz
        refine ⟨fun q => absurd ((ni_le (by omega) (by omega)).mp q) (by omega), fun _ => ?_⟩
        refine bX9_read_45 hX _ _ _ _ _ ⟨_, _, _, hltk, rfl, _, _, _, hntk.1, rfl, _, _, _, hltk, rfl, _, _, _, hxk.1, rfl, ?_⟩
        refine bX9_read_60 hX hrm hGX hOk (cm, i, [7], [8], m, fun i => lr_h (K i)) (hF rfl rfl) _ _ _ _ _ ⟨Nat.le_of_ble_eq_true rfl, ⟨cm, [.inl (nI i)], [7], _, rfl, hcm'⟩, hC (by omega), hS (by omega), Nat.le_of_ble_eq_true rfl, ⟨rfl, by omega, lsE_S hck.1⟩, ?_⟩
        rintro v g6 ⟨rfl, rfl⟩ z hz
        cases hz
        obtain ⟨k1, k2, k3, k4, k5⟩ := hck.2.1 i (by omega)
        have hcell := k1.2.1.1
        refine ⟨_, _, hcell, ?_⟩
        have hnlk := rd_nl (by omega) (by omega) hU hlk hAk hinj hck
        refine bX9_read_68 hX hrm hGX hOk (la, ([5], [6]), nl + i, lr_h (K i), ([30, lr_u (K i)], _), fun j => lr_h (lkj nl L K j)) (hF rfl rfl) _ _ _ _ _ ⟨Nat.le_of_ble_eq_true rfl, ⟨la, [.inr (.inr (some (lr_h (K i))))], [5], _, rfl, hla2⟩, ?_, ?_, Nat.le_of_ble_eq_true rfl, ⟨rfl, ⟨by omega, by decide, by decide, by decide, by simp, by simp⟩, hlk, hcell, fun j hj => ⟨_, _, (hnlk.2.2.1 j hj).1.2.1.1, by simp⟩⟩, ?_⟩
        · show 35 * len + i + 0 + 0 + 1 ≤ _
          exact hC (a := i + 1) (by omega)
        · show 471 * len + 61 * i + 0 + 0 + 61 ≤ _
          exact Nat.le_trans (by omega) (hS (a := i + 1) (by omega))
        rintro v g7 ⟨rfl, t7, hl7⟩ z hz -
        cases hz
        have n7 : ∀ b : List Nat, b ≠ [5] → b ≠ [6] → ¬ (b = [5] ∨ b = [6]) := fun b a1 a2 h => by rcases h with h | h; exact a1 h; exact a2 h
        have := ih (i + 1) g7 (by omega) (hg_tr hgk (hg_mono t7 (fun b hb => Or.inr hb))) (t7 _ _ _ hltk (n7 _ (by decide) (by decide))) (ntS_mono t7 ⟨n7 _ (by decide) (by decide), n7 _ (by decide) (by decide)⟩ hntk) (txS_mono t7 ⟨n7 _ (by decide) (by decide), n7 _ (by decide) (by decide)⟩ hxk) (rdA_mono t7 (fun u _ b hb x r e => by rcases hb with hb | hb <;> (rw [hb] at e; injection e with _ e; injection e)) hAk) (lsE_congr (fun j hj => by
          show (if j = nl + i then lr_h (K i) else lr_h (lkj nl L K j)) = lr_h (lkj nl L K j)
          by_cases h : j = nl + i
          · rw [if_pos h, h]
            unfold lkj
            rw [if_neg (by omega), show nl + i - nl = i by omega]
          · rw [if_neg h]) hl7) (cmS_m56 t7 (fun b hb => hb) hck)
        rw [show 35 * len + (i + 1) = 35 * len + i + 0 + 0 + 1 by omega, show 471 * len + 61 * (i + 1) = 471 * len + 61 * i + 0 + 0 + 61 by omega] at this
        exact ⟨rfl, pz_lsub (by exact ⟨ni_inc, rfl, rfl, trivial⟩) this⟩
    have hm40 : f1 = -1 → m ≤ 40 - nl := fun e => by
      rcases bd with ⟨_, b⟩ | ⟨b, _⟩
      · exact b
      · exact absurd e b
    refine ⟨fun q => ?_, fun q => ?_⟩
    · have q' : rdV ((a1, f1), m, D') ≤ 0 := q
      have hN : rdN ((a1, f1), m, D') = 0 := by
        unfold rdV at q'
        unfold rdN
        dsimp only at q' ⊢
        by_cases hf : f1 = -1
        · rw [if_pos hf] at q' ⊢
          have hm := hm40 hf
          have := (ni_le (a := m) (b := 0) (by omega) (by omega)).mp q'
          omega
        · rw [if_neg hf]
      have F := fin g3 0 [] (Nat.zero_le _) (by omega) hN hg3 hlt3 hx3 hA3 hl0 hK3 (Or.inl rfl)
      rw [show 35 * len + 0 = 0 + 35 * len by omega, show 471 * len + 61 * 0 = 0 + 471 * len by omega] at F
      exact F
    · have q' : ¬ rdV ((a1, f1), m, D') ≤ 0 := q
      have hf : f1 = -1 := by
        refine Classical.byContradiction fun hf => q' ?_
        unfold rdV
        dsimp only
        rw [if_neg hf]
        rcases bd with ⟨b, _⟩ | ⟨_, b⟩
        · exact absurd b hf
        · obtain ⟨j, hj, e⟩ := nI_of b
          have hjI := nI_toInt hj
          have h1 : (-1 : Int32).toInt = -1 := rfl
          rw [e, i3_le, i3_sub (by omega) (by omega), hjI, h1, show (0 : Int32).toInt = 0 from rfl]
          omega
      have hm := hm40 hf
      refine bX9_read_27 hX _ _ _ _ _ ?_
      have F := loop hf (by omega) m 0 g3 (by omega) hg3 hlt3 hnt3 hx3 hA3 hl0 hK3
      rw [show 35 * len + 0 = 0 + 35 * len by omega, show 471 * len + 61 * 0 = 0 + 471 * len by omega] at F
      exact F
