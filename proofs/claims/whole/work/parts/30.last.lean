/-! LineTimes$Net.tellLastLeg and tell -/
theorem fs_congr {P Q : Nat → Bool} : ∀ (m k : Nat), (∀ i, k ≤ i → i < k + m → P i = Q i) → fs_s P k m = fs_s Q k m
  | 0, _, _ => rfl
  | m + 1, k, h => by
    unfold fs_s
    rw [h k (Nat.le_refl _) (by omega), fs_congr m (k + 1) (fun i h1 h2 => h i (by omega) (by omega))]
theorem fe_congr {f1 A B A' B' : Nat → Int32} {lb : Nat} {w C : Nat → Int32} {left n : Nat} (hl : left < n) (h : ∀ k, k < n → A k = A' k ∧ B k = B' k) : fs_s (fe_p f1 A B lb w C left) 0 left = fs_s (fe_p f1 A' B' lb w C left) 0 left := fs_congr _ _ (fun i _ hi => by
  unfold fe_p
  rw [(h left hl).1, (h i (by omega)).2])
theorem fl_congr {f1 A B A' B' : Nat → Int32} {lb : Nat} {w wl C : Nat → Int32} {pl n : Nat} (h : ∀ k, k < n → A k = A' k ∧ B k = B' k) : fs_s (fl_q f1 A B lb w wl C pl) 1 (n - 1) = fs_s (fl_q f1 A' B' lb w wl C pl) 1 (n - 1) := fs_congr _ _ (fun i h1 hi => by
  unfold fl_q
  rw [(h i (by omega)).1, fe_congr (by omega) h])
/-- the leg of a line's row, by where it is left and entered -/
def tl_q (x : lr_T) (fd : Int32) (Z : Nat → List (Int32 × Int32)) (lb : Nat) (w wl C : Nat → Int32) (pl r : Nat) : Option (Nat × Nat) :=
  if lr_run x fd r = 1 then (match fs_s (fl_q (lr_f1 x) (lr_A x fd Z r) (lr_B x fd Z r) lb w wl C pl) 1 (lr_n x - 1) with
    | none => none
    | some left => match fs_s (fe_p (lr_f1 x) (lr_A x fd Z r) (lr_B x fd Z r) lb w C left) 0 left with
      | none => none
      | some e => some (left, e)) else none
def tl_r (x : lr_T) (fd : Int32) (Z : Nat → List (Int32 × Int32)) (lb : Nat) (w wl C : Nat → Int32) (pl : Nat) : Nat → Nat → Option (Nat × Nat × Nat)
  | _, 0 => none
  | r, m + 1 => match tl_q x fd Z lb w wl C pl r with
    | some q => some (r, q)
    | none => tl_r x fd Z lb w wl C pl (r + 1) m
def tl_n (L : Nat → lr_T) (fd : Int32) (Z : Nat → List (Int32 × Int32)) (lb : Nat) (w wl C : Nat → Int32) (pl : Nat) : Nat → Nat → Option (Nat × Nat × Nat × Nat)
  | _, 0 => none
  | i, m + 1 => match tl_r (L i) fd Z lb w wl C pl 0 13 with
    | some q => some (i, q)
    | none => tl_n L fd Z lb w wl C pl (i + 1) m
def tl_p (L : Nat → lr_T) (fd : Int32) (Z : Nat → List (Int32 × Int32)) (pf : Nat → Int32) : Nat × Nat × Nat × Nat → Nat → Int32 := fun (i, r, left, e) => upd (upd (upd (upd (upd (upd pf 2 (nI e)) 3 (nI left)) 4 (lr_B (L i) fd Z r e)) 5 (lr_A (L i) fd Z r left)) 0 (nI i)) 1 (fd + nI r)
set_option maxRecDepth 20000 in
theorem bX4_tellLastLeg_0 {X : pz_C} (hX : pz_X X cX4_tellLastLeg 7 RX4) : ∀ lv st g c s, (zo_ic 1 (0) (zo_is 2 4 (pz_Z X 7))) 0 lv st g c s → pz_Z X 7 0 lv st g c s := (zs_iconst hX dX4_tellLastLeg_0 (by decide) (zs_istore hX dX4_tellLastLeg_1 (by decide) (fun _ _ _ _ _ h => h)))
set_option maxRecDepth 20000 in
theorem bX4_tellLastLeg_3 {X : pz_C} (hX : pz_X X cX4_tellLastLeg 7 RX4) : ∀ lv st g c s, (zo_il 2 4 (zo_al 1 0 (zo_get 6 0 (pz_Z X 7)))) 3 lv st g c s → pz_Z X 7 3 lv st g c s := (zs_iload hX dX4_tellLastLeg_3 (zs_aload_n hX dX4_tellLastLeg_5 rfl (zs_get hX (C := RX4) (T := TX4) (N := 5) rfl in_X4 (by decide) mw_6a265c56 dX4_tellLastLeg_6 (fun _ _ _ _ _ h => h))))
set_option maxRecDepth 20000 in
theorem bX4_tellLastLeg_9 {X : pz_C} {G : pz_Gx} {rm : Room} (hX : pz_X X cX4_tellLastLeg 7 RX4) (hrm : pz_rm X = rm) (hGX : pz_GX X G) (hOk : pz_OK G) (gh : gt_Jx4a65c_size_8abf5) (hr_Jx4a65c_size_8abf5 : rm_Jx4a65c_size_8abf5.frames + 1 ≤ rm.frames ∧ 8 + (1 + 11) + rm_Jx4a65c_size_8abf5.locals ≤ rm.locals) : ∀ lv st g c s, (zo_cV rm 1 0 5 rm_Jx4a65c_size_8abf5.cells rm_Jx4a65c_size_8abf5.slots (pr_Jx4a65c_size_8abf5 gh) (po_Jx4a65c_size_8abf5 gh) (zo_ki (zo_ic_ge 105 (pz_Z X 7)))) 9 lv st g c s → pz_Z X 7 9 lv st g c s := by
  subst hrm
  exact (zs_csF hX hGX (C := RJx4a65c) (T := TJx4a65c) (N := 3) rfl (ct_Jx4a65c_size_8abf5 hOk gh) (hOk.2.1) mw_d5bce3b2 mw_e0c83bb7 mw_8c7bf081 mw_dd3bf01c mw_d1eac4b0 (by decide +kernel) hr_Jx4a65c_size_8abf5 dX4_tellLastLeg_9 (zs_ki (zs_ic_ge hX dX4_tellLastLeg_14 (by decide) (fun _ _ _ _ _ _ h => h))))
set_option maxRecDepth 20000 in
theorem bX4_tellLastLeg_17 {X : pz_C} (hX : pz_X X cX4_tellLastLeg 7 RX4) : ∀ lv st g c s, (zo_al 1 0 (zo_get 6 0 (zo_il 2 4 (pz_Z X 7)))) 17 lv st g c s → pz_Z X 7 17 lv st g c s := (zs_aload_n hX dX4_tellLastLeg_17 rfl (zs_get hX (C := RX4) (T := TX4) (N := 5) rfl in_X4 (by decide) mw_6a265c56 dX4_tellLastLeg_18 (zs_iload hX dX4_tellLastLeg_21 (fun _ _ _ _ _ h => h))))
set_option maxRecDepth 20000 in
theorem bX4_tellLastLeg_23 {X : pz_C} {G : pz_Gx} {rm : Room} (hX : pz_X X cX4_tellLastLeg 7 RX4) (hrm : pz_rm X = rm) (hGX : pz_GX X G) (hOk : pz_OK G) (gh : gt_Jx4a65c_get_915e3) (hr_Jx4a65c_get_915e3 : rm_Jx4a65c_get_915e3.frames + 1 ≤ rm.frames ∧ 8 + (2 + 11) + rm_Jx4a65c_get_915e3.locals ≤ rm.locals) : ∀ lv st g c s, (zo_cV rm 1 1 5 rm_Jx4a65c_get_915e3.cells rm_Jx4a65c_get_915e3.slots (pr_Jx4a65c_get_915e3 gh) (po_Jx4a65c_get_915e3 gh) (zo_kr (zo_cast1 5 (zo_as 2 5 (zo_ic 1 (0) (zo_is 2 6 (pz_Z X 7))))))) 23 lv st g c s → pz_Z X 7 23 lv st g c s := by
  subst hrm
  exact (zs_csF hX hGX (C := RJx4a65c) (T := TJx4a65c) (N := 3) rfl (ct_Jx4a65c_get_915e3 hOk gh) (hOk.2.2.1) mw_3d0b9f87 mw_50a82afc mw_e81a0f1b mw_dd3bf01c mw_817361af (by decide +kernel) hr_Jx4a65c_get_915e3 dX4_tellLastLeg_23 (zs_kr (by first | exact Or.inl ⟨_, rfl⟩ | exact Or.inr ⟨_, rfl⟩) (zs_cast1 hX (C := RX3) (T := TX3) (N := 11) rfl mw_e6efc03c dX4_tellLastLeg_28 (zs_astore hX dX4_tellLastLeg_31 (by decide) (zs_iconst hX dX4_tellLastLeg_33 (by decide) (zs_istore hX dX4_tellLastLeg_34 (by decide) (fun _ _ _ _ _ h => h)))))))
set_option maxRecDepth 20000 in
theorem bX4_tellLastLeg_36 {X : pz_C} (hX : pz_X X cX4_tellLastLeg 7 RX4) : ∀ lv st g c s, (zo_il 2 6 (zo_ic 2 (13) (zo_ic_ge 99 (pz_Z X 7)))) 36 lv st g c s → pz_Z X 7 36 lv st g c s := (zs_iload hX dX4_tellLastLeg_36 (zs_bipush hX dX4_tellLastLeg_38 (by decide) (zs_ic_ge hX dX4_tellLastLeg_40 (by decide) (fun _ _ _ _ _ _ h => h))))
set_option maxRecDepth 20000 in
theorem bX4_tellLastLeg_43 {X : pz_C} (hX : pz_X X cX4_tellLastLeg 7 RX4) : ∀ lv st g c s, (zo_al 2 5 (zo_get 5 7 (zo_il 2 6 (zo_zald (zo_if_eq 93 (pz_Z X 7)))))) 43 lv st g c s → pz_Z X 7 43 lv st g c s := (zs_aload hX dX4_tellLastLeg_43 (zs_get hX (C := RX3) (T := TX3) (N := 11) rfl in_X3 (by decide) mw_324d2fc6 dX4_tellLastLeg_45 (zs_iload hX dX4_tellLastLeg_48 (zs_zald hX dX4_tellLastLeg_50 (zs_if_eq hX dX4_tellLastLeg_51 (by decide) (fun _ _ _ _ _ _ h => h))))))
set_option maxRecDepth 20000 in
theorem bX4_tellLastLeg_54 {X : pz_C} (hX : pz_X X cX4_tellLastLeg 7 RX4) : ∀ lv st g c s, (zo_al 1 0 (zo_al 1 1 (zo_al 2 5 (zo_il 2 6 (zo_il 1 2 (zo_il 1 3 (pz_Z X 7))))))) 54 lv st g c s → pz_Z X 7 54 lv st g c s := (zs_aload_n hX dX4_tellLastLeg_54 rfl (zs_aload_n hX dX4_tellLastLeg_55 rfl (zs_aload hX dX4_tellLastLeg_56 (zs_iload hX dX4_tellLastLeg_58 (zs_iload_n hX dX4_tellLastLeg_60 rfl (zs_iload_n hX dX4_tellLastLeg_61 rfl (fun _ _ _ _ _ h => h)))))))
set_option maxRecDepth 20000 in
theorem bX4_tellLastLeg_62 {X : pz_C} {G : pz_Gx} {rm : Room} (hX : pz_X X cX4_tellLastLeg 7 RX4) (hrm : pz_rm X = rm) (hGX : pz_GX X G) (hOk : pz_OK G) (gh : gt_X4_findLeg) (hr_X4_findLeg : rm_X4_findLeg.frames + 1 ≤ rm.frames ∧ 8 + (9 + 11) + rm_X4_findLeg.locals ≤ rm.locals) : ∀ lv st g c s, (zo_cV rm 6 5 3 rm_X4_findLeg.cells rm_X4_findLeg.slots (pr_X4_findLeg gh) (po_X4_findLeg gh) (zo_kz (zo_if_eq 93 (pz_Z X 7)))) 62 lv st g c s → pz_Z X 7 62 lv st g c s := by
  subst hrm
  exact (zs_csV hX hGX (C := RX4) (T := TX4) (N := 5) rfl (ct_X4_findLeg hOk gh) mw_ad682756 mw_3af89903 mw_cee56dd3 mw_5ae0c28b mw_64d118d2 (by decide +kernel) hr_X4_findLeg dX4_tellLastLeg_62 (zs_kz (zs_if_eq hX dX4_tellLastLeg_65 (by decide) (fun _ _ _ _ _ _ h => h))))
set_option maxRecDepth 20000 in
theorem bX4_tellLastLeg_68 {X : pz_C} {rm : Room} {E : Option pz_V → pz_H → Prop} (hX : pz_X X cX4_tellLastLeg 7 RX4) (hR : pz_Rt X cX4_tellLastLeg 7 (some .int) rm E) : ∀ lv st g c s, (zo_al 1 1 (zo_ic 1 (0) (zo_il 2 4 (zo_iast (zo_al 1 1 (zo_ic 1 (1) (zo_al 1 0 (zo_get 6 4 (zo_il 2 6 (zo_iadd (zo_iast (zo_al 2 5 (zo_get 5 1 (zo_al 1 1 (zo_ic 1 (2) (zo_iald (zo_iald (zo_ri rm E)))))))))))))))))) 68 lv st g c s → pz_Z X 7 68 lv st g c s := (zs_aload_n hX dX4_tellLastLeg_68 rfl (zs_iconst hX dX4_tellLastLeg_69 (by decide) (zs_iload hX dX4_tellLastLeg_70 (zs_iast hX dX4_tellLastLeg_72 (zs_aload_n hX dX4_tellLastLeg_73 rfl (zs_iconst hX dX4_tellLastLeg_74 (by decide) (zs_aload_n hX dX4_tellLastLeg_75 rfl (zs_get hX (C := RX4) (T := TX4) (N := 5) rfl in_X4 (by decide) mw_38b84c97 dX4_tellLastLeg_76 (zs_iload hX dX4_tellLastLeg_79 (zs_iadd hX dX4_tellLastLeg_81 (zs_iast hX dX4_tellLastLeg_82 (zs_aload hX dX4_tellLastLeg_83 (zs_get hX (C := RX3) (T := TX3) (N := 11) rfl in_X3 (by decide) mw_6bb37aef dX4_tellLastLeg_85 (zs_aload_n hX dX4_tellLastLeg_88 rfl (zs_iconst hX dX4_tellLastLeg_89 (by decide) (zs_iald hX dX4_tellLastLeg_90 (zs_iald hX dX4_tellLastLeg_91 (zs_ri hR dX4_tellLastLeg_92))))))))))))))))))
set_option maxRecDepth 20000 in
theorem bX4_tellLastLeg_93 {X : pz_C} (hX : pz_X X cX4_tellLastLeg 7 RX4) : ∀ lv st g c s, (zo_inc 6 (1) (zo_goto 36 (pz_Z X 7))) 93 lv st g c s → pz_Z X 7 93 lv st g c s := (zs_iinc hX dX4_tellLastLeg_93 (by decide) (by decide) (zs_goto hX dX4_tellLastLeg_96 (by decide) (fun _ _ _ _ _ _ h => h)))
set_option maxRecDepth 20000 in
theorem bX4_tellLastLeg_99 {X : pz_C} (hX : pz_X X cX4_tellLastLeg 7 RX4) : ∀ lv st g c s, (zo_inc 4 (1) (zo_goto 3 (pz_Z X 7))) 99 lv st g c s → pz_Z X 7 99 lv st g c s := (zs_iinc hX dX4_tellLastLeg_99 (by decide) (by decide) (zs_goto hX dX4_tellLastLeg_102 (by decide) (fun _ _ _ _ _ _ h => h)))
set_option maxRecDepth 20000 in
theorem bX4_tellLastLeg_105 {X : pz_C} {rm : Room} {E : Option pz_V → pz_H → Prop} (hX : pz_X X cX4_tellLastLeg 7 RX4) (hR : pz_Rt X cX4_tellLastLeg 7 (some .int) rm E) : ∀ lv st g c s, (zo_il 1 2 (zo_ri rm E)) 105 lv st g c s → pz_Z X 7 105 lv st g c s := (zs_iload_n hX dX4_tellLastLeg_105 rfl (zs_ri hR dX4_tellLastLeg_106))
def rm_X4_tellLastLeg : Room := { frames := 3, cells := 0, slots := 0, locals := 78 }
abbrev gt_X4_tellLastLeg : Type := (Nat × Nat × Nat × Nat) × (Nat × (Nat → Int32)) × (Nat × Nat × Nat × Nat) × Int32 × (Nat → Nat) × ((Nat → Int32) × (Nat → Int32)) × (Nat × (Nat → lr_T)) × ((Nat → Nat) × (Nat → List (Int32 × Int32)) × (Nat → Int32) × (Nat → Int32))
def pr_X4_tellLastLeg : gt_X4_tellLastLeg → List pz_V → pz_H → Prop := fun ((nt, pr, pl, lb), (kb, pf), (la, pa, na, sa), fd, Wa, (w, wl), (nl, L), (fp, Z, N, C)) av g => av = [.inr (.inr (some nt)), .inr (.inr (some pr)), .inl (nI pl), .inl (nI (lb + 1))] ∧ lb < 6 ∧ pl < 100 ∧ ntS g nt la pa na sa fd Wa ∧ nlS g la nl L ∧ (∀ i, i < nl → lrW g (L i) fd Z) ∧ plS g pa fp Z N C ∧ g (Wa lb) = some ([11, lb], ar_i 100 w) ∧ g (Wa (lb + 1)) = some ([11, lb + 1], ar_i 100 wl) ∧ g pr = some ([14, kb], ar_i 6 pf)
def po_X4_tellLastLeg : gt_X4_tellLastLeg → List pz_V → pz_H → Option pz_V → pz_H → Prop := fun ((_, pr, pl, lb), (kb, pf), _, fd, _, (w, wl), (nl, L), (_, Z, _, C)) _ g v g' => (tl_n L fd Z lb w wl C pl 0 nl = none ∧ g' = g ∧ v = some (.inl (nI pl))) ∨ ∃ i r left e, tl_n L fd Z lb w wl C pl 0 nl = some (i, r, left, e) ∧ i < nl ∧ e < lr_n (L i) ∧ g' = va_up g pr (some ([14, kb], ar_i 6 (tl_p L fd Z pf (i, r, left, e)))) ∧ v = some (.inl (lr_f1 (L i) e))
set_option maxRecDepth 20000 in
set_option maxHeartbeats 4000000 in
theorem ct_X4_tellLastLeg {G : pz_Gx} (hOk : pz_OK G) (gh : gt_X4_tellLastLeg) : pz_M G yX4_tellLastLeg cX4_tellLastLeg 7 (some .int) rm_X4_tellLastLeg (pr_X4_tellLastLeg gh) (po_X4_tellLastLeg gh) := by
  obtain ⟨⟨nt, pr, pl, lb⟩, ⟨kb, pf⟩, ⟨la, pa, na, sa⟩, fd, Wa, ⟨w, wl⟩, ⟨nl, L⟩, fp, Z, N, C⟩ := gh
  refine pz_ofZ (by decide) hOk.1 (Or.inr (Or.inl rfl)) ?_ ?_
  · rintro av g ⟨rfl, -⟩
    exact Nat.le_of_ble_eq_true rfl
  · rintro X hX hGX hrm - av g ⟨rfl, hlb, hpl100, hnt, hnl, hW, hpS, hw, hwl, hpr⟩ hR
    obtain ⟨hn1, ona, hna, hona⟩ := id hnt
    obtain ⟨hnl40, hls0, hlr, -⟩ := id hnl
    obtain ⟨-, mc, ed, hls, -⟩ := id hls0
    have loop : ∀ (m k : Nat), k + m = nl → tl_n L fd Z lb w wl C pl k m = tl_n L fd Z lb w wl C pl 0 nl → pz_Z X 7 3 [(4, .inl (nI k)), (0, .inr (.inr (some nt))), (1, .inr (.inr (some pr))), (2, .inl (nI pl)), (3, .inl (nI (lb + 1)))] [] g 0 0 := by
      intro m
      induction m with
      | zero =>
        intro k hk he
        obtain rfl : k = nl := by omega
        refine bX4_tellLastLeg_3 hX _ _ _ _ _ ⟨_, _, _, hn1, rfl, ?_⟩
        refine bX4_tellLastLeg_9 hX hrm hGX hOk (la, nI k) (by decide) _ _ _ _ _ ⟨Nat.le_of_ble_eq_true rfl, ⟨la, [], [5], _, rfl, hls⟩, Nat.le_of_ble_eq_true rfl, Nat.le_of_ble_eq_true rfl, Nat.le_of_ble_eq_true rfl, ⟨rfl, [5], _, hls, rfl⟩, ?_⟩
        rintro v g' ⟨rfl, rfl⟩ x hx
        cases hx
        refine ⟨fun _ => ?_, fun q => absurd (Int32.le_refl _) q⟩
        exact bX4_tellLastLeg_105 hX hR _ _ _ _ _ ⟨Nat.le_refl _, Nat.le_refl _, Or.inl ⟨he.symm, rfl, rfl⟩⟩
      | succ m ih =>
        intro k hk he
        refine bX4_tellLastLeg_3 hX _ _ _ _ _ ⟨_, _, _, hn1, rfl, ?_⟩
        refine bX4_tellLastLeg_9 hX hrm hGX hOk (la, nI nl) (by decide) _ _ _ _ _ ⟨Nat.le_of_ble_eq_true rfl, ⟨la, [], [5], _, rfl, hls⟩, Nat.le_of_ble_eq_true rfl, Nat.le_of_ble_eq_true rfl, Nat.le_of_ble_eq_true rfl, ⟨rfl, [5], _, hls, rfl⟩, ?_⟩
        rintro v g' ⟨rfl, rfl⟩ x hx
        cases hx
        refine ⟨fun q => absurd ((ni_le (by omega) (by omega)).mp q) (by omega), fun _ => ?_⟩
        refine bX4_tellLastLeg_17 hX _ _ _ _ _ ⟨_, _, _, hn1, rfl, ?_⟩
        refine bX4_tellLastLeg_23 hX hrm hGX hOk (la, k, [5], [6], nl, fun i => lr_h (L i)) (by decide) _ _ _ _ _ ⟨Nat.le_of_ble_eq_true rfl, ⟨la, [.inl (nI k)], [5], _, rfl, hls⟩, Nat.le_of_ble_eq_true rfl, Nat.le_of_ble_eq_true rfl, Nat.le_of_ble_eq_true rfl, ⟨rfl, by omega, hls0⟩, ?_⟩
        rintro v g2 ⟨rfl, rfl⟩ x hx
        cases hx
        have hokg := hlr k (by omega)
        have hWg := hW k (by omega)
        have he' : (match tl_r (L k) fd Z lb w wl C pl 0 13 with | some q => some (k, q) | none => tl_n L fd Z lb w wl C pl (k + 1) m) = tl_n L fd Z lb w wl C pl 0 nl := he
        have hnext : tl_r (L k) fd Z lb w wl C pl 0 13 = none → pz_Z X 7 3 [(4, .inl (nI (k + 1))), (0, .inr (.inr (some nt))), (1, .inr (.inr (some pr))), (2, .inl (nI pl)), (3, .inl (nI (lb + 1)))] [] g2 0 0 := by
          intro hno
          refine ih (k + 1) (by omega) ?_
          rw [hno] at he'
          exact he'
        have hfound : ∀ r left e, tl_r (L k) fd Z lb w wl C pl 0 13 = some (r, left, e) → e < lr_n (L k) → po_X4_tellLastLeg ((nt, pr, pl, lb), (kb, pf), (la, pa, na, sa), fd, Wa, (w, wl), (nl, L), (fp, Z, N, C)) [.inr (.inr (some nt)), .inr (.inr (some pr)), .inl (nI pl), .inl (nI (lb + 1))] g2 (some (.inl (lr_f1 (L k) e))) (va_up g2 pr (some ([14, kb], ar_i 6 (tl_p L fd Z pf (k, r, left, e))))) := by
          intro r left e hre hen
          rw [hre] at he'
          exact Or.inr ⟨k, r, left, e, he'.symm, by omega, hen, rfl, rfl⟩
        have htlp : ∀ r left e, tl_p L fd Z pf (k, r, left, e) = upd (upd (upd (upd (upd (upd pf 2 (nI e)) 3 (nI left)) 4 (lr_B (L k) fd Z r e)) 5 (lr_A (L k) fd Z r left)) 0 (nI k)) 1 (fd + nI r) := fun _ _ _ => rfl
        have eh : (fun i => lr_h (L i)) k = lr_h (L k) := rfl
        rw [eh]
        generalize L k = x at hokg hWg hnext hfound htlp ⊢
        obtain ⟨⟨u, h⟩, ⟨La, Ra, Rd⟩, ⟨wd, n, dw, lw⟩, ⟨f1, f2, f3⟩, dl, ll⟩ := x
        obtain ⟨rn, A, B, ⟨t7, tA, tB, -⟩, hrn, hAB⟩ := hWg
        have h01 := fun r => lr_run_01 hokg fd r
        obtain ⟨o1, o2, o3, o4, o5, o6, o7⟩ := hokg
        refine ⟨_, _, o2.1, ?_⟩
        have rows : ∀ (m2 r : Nat), r + m2 = 13 → tl_r ((u, h), (La, Ra, Rd), (wd, n, dw, lw), (f1, f2, f3), dl, ll) fd Z lb w wl C pl r m2 = tl_r ((u, h), (La, Ra, Rd), (wd, n, dw, lw), (f1, f2, f3), dl, ll) fd Z lb w wl C pl 0 13 → pz_Z X 7 36 [(6, .inl (nI r)), (5, .inr (.inr (some h))), (4, .inl (nI k)), (0, .inr (.inr (some nt))), (1, .inr (.inr (some pr))), (2, .inl (nI pl)), (3, .inl (nI (lb + 1)))] [] g2 0 0 := by
          intro m2
          induction m2 with
          | zero =>
            intro r hr13 hre
            obtain rfl : r = 13 := by omega
            refine bX4_tellLastLeg_36 hX _ _ _ _ _ ⟨fun _ => ?_, fun q => absurd (show (13 : Int32) ≤ nI 13 by decide) q⟩
            refine bX4_tellLastLeg_99 hX _ _ _ _ _ ?_
            refine pz_lsub (lv' := [(4, .inl (nI (k + 1))), (0, .inr (.inr (some nt))), (1, .inr (.inr (some pr))), (2, .inl (nI pl)), (3, .inl (nI (lb + 1)))]) ⟨ni_inc, rfl, rfl, rfl, rfl, trivial⟩ ?_
            exact hnext hre.symm
          | succ m2 ih2 =>
            intro r hr13 hre
            have hre' : (match tl_q ((u, h), (La, Ra, Rd), (wd, n, dw, lw), (f1, f2, f3), dl, ll) fd Z lb w wl C pl r with | some q => some (r, q) | none => tl_r ((u, h), (La, Ra, Rd), (wd, n, dw, lw), (f1, f2, f3), dl, ll) fd Z lb w wl C pl (r + 1) m2) = tl_r ((u, h), (La, Ra, Rd), (wd, n, dw, lw), (f1, f2, f3), dl, ll) fd Z lb w wl C pl 0 13 := hre
            have hrc : (nI r).toNatClampNeg = r := ni_cl (by omega)
            have hri : vp_in (nI r) 13 := ni_in (by omega) (by omega)
            have step : tl_q ((u, h), (La, Ra, Rd), (wd, n, dw, lw), (f1, f2, f3), dl, ll) fd Z lb w wl C pl r = none → ∀ lv : pz_L, pz_all lv [(6, .inl (nI r)), (5, .inr (.inr (some h))), (4, .inl (nI k)), (0, .inr (.inr (some nt))), (1, .inr (.inr (some pr))), (2, .inl (nI pl)), (3, .inl (nI (lb + 1)))] → pz_Z X 7 93 lv [] g2 0 0 := by
              intro hno lv hlv
              refine pz_lsub hlv ?_
              refine bX4_tellLastLeg_93 hX _ _ _ _ _ ?_
              refine pz_lsub (lv' := [(6, .inl (nI (r + 1))), (5, .inr (.inr (some h))), (4, .inl (nI k)), (0, .inr (.inr (some nt))), (1, .inr (.inr (some pr))), (2, .inl (nI pl)), (3, .inl (nI (lb + 1)))]) ⟨ni_inc, rfl, rfl, rfl, rfl, rfl, rfl, trivial⟩ ?_
              refine ih2 (r + 1) (by omega) ?_
              rw [hno] at hre'
              exact hre'
            refine bX4_tellLastLeg_36 hX _ _ _ _ _ ⟨fun q => absurd ((ni_le (a := 13) (by omega) (by omega)).mp q) (by omega), fun _ => ?_⟩
            refine bX4_tellLastLeg_43 hX _ _ _ _ _ ⟨_, _, _, o2.1, rfl, _, _, _, t7, hri, ?_⟩
            rw [hrc, hrn r (by omega)]
            refine ⟨fun q => ?_, fun q => ?_⟩
            · refine step ?_ _ ⟨rfl, rfl, rfl, rfl, rfl, rfl, rfl, trivial⟩
              unfold tl_q
              rw [if_neg (by rw [q]; decide)]
            · have hr1 : lr_run ((u, h), (La, Ra, Rd), (wd, n, dw, lw), (f1, f2, f3), dl, ll) fd r = 1 := (h01 r).resolve_left q
              have hab := hAB r (by omega) ((hrn r (by omega)).trans hr1)
              refine bX4_tellLastLeg_54 hX _ _ _ _ _ ?_
              refine bX4_tellLastLeg_62 hX hrm hGX hOk ((nt, pr, h, r, pl, lb), ([14, kb], pf), (la, pa, na, sa), fd, Wa, (w, wl), (u, La, Ra, Rd), (wd, n, dw, lw), (f1, f2, f3), (A r, B r), (fp, Z, N, C)) (by decide) _ _ _ _ _ ⟨Nat.le_of_ble_eq_true rfl, ⟨nt, [.inr (.inr (some pr)), .inr (.inr (some h)), .inl (nI r), .inl (nI pl), .inl (nI (lb + 1))], [1], _, rfl, hn1⟩, Nat.le_of_ble_eq_true rfl, Nat.le_of_ble_eq_true rfl, Nat.le_of_ble_eq_true rfl, ⟨rfl, by omega, hlb, hpl100, o1, hnt, o2, o7, hpS, tA r (by omega), tB r (by omega), hw, hwl, hpr, kb, rfl⟩, ?_⟩
              rintro v g4 (⟨hnone, rfl, rfl⟩ | ⟨left, e, hl1, he1, rfl, rfl⟩) x hx -
              · cases hx
                refine ⟨fun _ => ?_, fun z => absurd rfl z⟩
                refine step ?_ _ ⟨rfl, rfl, rfl, rfl, rfl, rfl, rfl, trivial⟩
                unfold tl_q
                rw [if_pos hr1]
                rw [fl_congr hab] at hnone
                show (match fs_s (fl_q f1 _ _ lb w wl C pl) 1 (n - 1) with | none => none | some left => _) = none
                rw [hnone]
              · cases hx
                have hll := fs_lt hl1
                have hle := fs_lt he1
                have hln : left < n := by omega
                have hen : e < n := by omega
                refine ⟨fun z => absurd z (by decide), fun _ => ?_⟩
                have hq : tl_q ((u, h), (La, Ra, Rd), (wd, n, dw, lw), (f1, f2, f3), dl, ll) fd Z lb w wl C pl r = some (left, e) := by
                  unfold tl_q
                  rw [if_pos hr1]
                  rw [fl_congr hab] at hl1
                  rw [fe_congr hln hab] at he1
                  show (match fs_s (fl_q f1 _ _ lb w wl C pl) 1 (n - 1) with | none => none | some left => match fs_s (fe_p f1 _ _ lb w C left) 0 left with | none => none | some e => some (left, e)) = _
                  rw [hl1]
                  dsimp only
                  rw [he1]
                rw [hq] at hre'
                have hpo := hfound r left e hre'.symm hen
                rw [htlp] at hpo
                obtain ⟨hh, h1, -⟩ := id o2
                refine bX4_tellLastLeg_68 hX hR _ _ _ _ _ ⟨_, _, _, up_at, ni_in (j := 0) (by omega) (by omega), _, _, _, up_ne (up_ne hn1 hpr (by simp)) up_at (by simp), rfl, _, _, _, up_at, ni_in (j := 1) (by omega) (by omega), _, _, _, up_ne (up_ne (up_ne hh hpr (by simp)) up_at (by simp)) up_at (by simp), rfl, _, _, _, up_at, ni_in (j := 2) (by omega) (by omega), _, _, _, up_ne (up_ne (up_ne h1 hpr (by simp)) up_at (by simp)) up_at (by simp), ni_in (j := e) (by omega) (by omega), Nat.le_refl _, Nat.le_refl _, ?_⟩
                rw [up_up, up_up, (hab e hen).2, (hab left hln).1]
                have ee : (upd (upd (upd (upd (upd (upd pf 2 (nI e)) 3 (nI left)) 4 (lr_B ((u, h), (La, Ra, Rd), (wd, n, dw, lw), (f1, f2, f3), dl, ll) fd Z r e)) 5 (lr_A ((u, h), (La, Ra, Rd), (wd, n, dw, lw), (f1, f2, f3), dl, ll) fd Z r left)) (Int32.toNatClampNeg 0) (nI k)) (Int32.toNatClampNeg 1) (fd + nI r) (Int32.toNatClampNeg 2)).toNatClampNeg = e := by
                  show (nI e).toNatClampNeg = e
                  exact ni_cl (by omega)
                rw [ee]
                exact hpo
        refine pz_lsub (lv' := [(6, .inl (nI 0)), (5, .inr (.inr (some h))), (4, .inl (nI k)), (0, .inr (.inr (some nt))), (1, .inr (.inr (some pr))), (2, .inl (nI pl)), (3, .inl (nI (lb + 1)))]) ⟨rfl, rfl, rfl, rfl, rfl, rfl, rfl, trivial⟩ ?_
        exact rows 13 0 (by omega) rfl
    refine bX4_tellLastLeg_0 hX _ _ _ _ _ ?_
    refine pz_lsub (lv' := [(4, .inl (nI 0)), (0, .inr (.inr (some nt))), (1, .inr (.inr (some pr))), (2, .inl (nI pl)), (3, .inl (nI (lb + 1)))]) ⟨rfl, rfl, rfl, rfl, rfl, trivial⟩ ?_
    exact loop nl 0 (by omega) rfl
