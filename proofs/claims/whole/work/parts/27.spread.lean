/-! LineTimes$Net.spread: every run taken as the last of lb + 1 legs -/
abbrev sp_S : Type := (Nat → Int32) × (Nat → Int32) × Int32
/-- one row of a line -/
def sp_r (x : lr_T) (fd : Int32) (Z : Nat → List (Int32 × Int32)) (to lb : Nat) (w C : Nat → Int32) (r : Nat) : sp_S → sp_S := fun (so, wl, f) => if lr_run x fd r = 1 then ((rd_k (lr_f1 x) (lr_A x fd Z r) (lr_B x fd Z r) to lb w C (so, wl, 0, 2147483647) (lr_n x)).1, (rd_k (lr_f1 x) (lr_A x fd Z r) (lr_B x fd Z r) to lb w C (so, wl, 0, 2147483647) (lr_n x)).2.1, if (rd_k (lr_f1 x) (lr_A x fd Z r) (lr_B x fd Z r) to lb w C (so, wl, 0, 2147483647) (lr_n x)).2.2.1 = 0 then f else 1) else (so, wl, f)
def sp_l (x : lr_T) (fd : Int32) (Z : Nat → List (Int32 × Int32)) (to lb : Nat) (w C : Nat → Int32) (s : sp_S) : Nat → sp_S
  | 0 => s
  | r + 1 => sp_r x fd Z to lb w C r (sp_l x fd Z to lb w C s r)
def sp_n (L : Nat → lr_T) (fd : Int32) (Z : Nat → List (Int32 × Int32)) (to lb : Nat) (w C : Nat → Int32) (s : sp_S) : Nat → sp_S
  | 0 => s
  | i + 1 => sp_l (L i) fd Z to lb w C (sp_n L fd Z to lb w C s i) 13
theorem rd_congr {f1 A B A' B' : Nat → Int32} {to lb : Nat} {w C : Nat → Int32} {s : rd_S} : ∀ n, (∀ k, k < n → A k = A' k ∧ B k = B' k) → rd_k f1 A B to lb w C s n = rd_k f1 A' B' to lb w C s n
  | 0, _ => rfl
  | n + 1, h => by
    show rd_1 _ (A n) (B n) to lb w C (rd_k f1 A B to lb w C s n) = rd_1 _ (A' n) (B' n) to lb w C (rd_k f1 A' B' to lb w C s n)
    rw [rd_congr n (fun k hk => h k (by omega)), (h n (by omega)).1, (h n (by omega)).2]
theorem sp_01 {x : lr_T} {fd : Int32} {Z : Nat → List (Int32 × Int32)} {to lb : Nat} {w C : Nat → Int32} {r : Nat} {s : sp_S} (h : s.2.2 = 0 ∨ s.2.2 = 1) : (sp_r x fd Z to lb w C r s).2.2 = 0 ∨ (sp_r x fd Z to lb w C r s).2.2 = 1 := by
  obtain ⟨so, wl, f⟩ := s
  unfold sp_r
  dsimp only
  split
  · dsimp only
    split
    · exact h
    · exact Or.inr rfl
  · exact h
theorem sp_l01 {x : lr_T} {fd : Int32} {Z : Nat → List (Int32 × Int32)} {to lb : Nat} {w C : Nat → Int32} {s : sp_S} (h : s.2.2 = 0 ∨ s.2.2 = 1) : ∀ r, (sp_l x fd Z to lb w C s r).2.2 = 0 ∨ (sp_l x fd Z to lb w C s r).2.2 = 1
  | 0 => h
  | r + 1 => sp_01 (sp_l01 h r)
theorem sp_n01 {L : Nat → lr_T} {fd : Int32} {Z : Nat → List (Int32 × Int32)} {to lb : Nat} {w C : Nat → Int32} {s : sp_S} (h : s.2.2 = 0 ∨ s.2.2 = 1) : ∀ i, (sp_n L fd Z to lb w C s i).2.2 = 0 ∨ (sp_n L fd Z to lb w C s i).2.2 = 1
  | 0 => h
  | i + 1 => sp_l01 (sp_n01 h i) 13
theorem lr_run_01 {g : pz_H} {x : lr_T} (h : lrOK g x) (fd : Int32) (i : Nat) : lr_run x fd i = 0 ∨ lr_run x fd i = 1 := by
  obtain ⟨⟨u, h0⟩, ⟨La, Ra, Rd⟩, ⟨wd, n, dw, lw⟩, ⟨f1, f2, f3⟩, dl, ll⟩ := x
  exact dw_run_01 h.2.2.2.1 _
set_option maxRecDepth 20000 in
theorem bX4_spread_0 {X : pz_C} (hX : pz_X X cX4_spread 7 RX4) : ∀ lv st g c s, (zo_al 1 0 (zo_get 6 2 (zo_il 1 1 (zo_aald 6 (zo_ic 2 (2147483647) (pz_Z X 7)))))) 0 lv st g c s → pz_Z X 7 0 lv st g c s := (zs_aload_n hX dX4_spread_0 rfl (zs_get hX (C := RX4) (T := TX4) (N := 5) rfl in_X4 (by decide) mw_e3f537a3 dX4_spread_1 (zs_iload_n hX dX4_spread_4 rfl (zs_aald hX (ty := (.array .int)) (fun _ => rfl) rfl dX4_spread_5 (zs_ldc hX dX4_spread_6 mw_9b89bef2 (fun _ _ _ _ _ h => h))))))
set_option maxRecDepth 20000 in
theorem bX4_spread_8 {X : pz_C} {G : pz_Gx} {rm : Room} (hX : pz_X X cX4_spread 7 RX4) (hrm : pz_rm X = rm) (hGX : pz_GX X G) (hOk : pz_OK G) (gh : gt_J7_fill_53178) (hr_J7_fill_53178 : rm_J7_fill_53178.frames + 1 ≤ rm.frames ∧ 8 + (4 + 11) + rm_J7_fill_53178.locals ≤ rm.locals) : ∀ lv st g c s, (zo_cs rm 2 3 rm_J7_fill_53178.cells rm_J7_fill_53178.slots (pr_J7_fill_53178 gh) (po_J7_fill_53178 gh) (zo_kv (zo_ic 1 (0) (zo_is 1 3 (zo_ic 1 (0) (zo_is 2 4 (pz_Z X 7))))))) 8 lv st g c s → pz_Z X 7 8 lv st g c s := by
  subst hrm
  exact (zs_csS hX hGX (ct_J7_fill_53178 hOk gh) mw_e28a97c6 mw_f64f8428 mw_76fc92b1 mw_9f3bf93d (by decide +kernel) hr_J7_fill_53178 dX4_spread_8 (zs_kv (zs_iconst hX dX4_spread_11 (by decide) (zs_istore_n hX dX4_spread_12 rfl (by decide) (zs_iconst hX dX4_spread_13 (by decide) (zs_istore hX dX4_spread_14 (by decide) (fun _ _ _ _ _ h => h)))))))
set_option maxRecDepth 20000 in
theorem bX4_spread_16 {X : pz_C} (hX : pz_X X cX4_spread 7 RX4) : ∀ lv st g c s, (zo_il 2 4 (zo_al 1 0 (zo_get 6 0 (pz_Z X 7)))) 16 lv st g c s → pz_Z X 7 16 lv st g c s := (zs_iload hX dX4_spread_16 (zs_aload_n hX dX4_spread_18 rfl (zs_get hX (C := RX4) (T := TX4) (N := 5) rfl in_X4 (by decide) mw_6a265c56 dX4_spread_19 (fun _ _ _ _ _ h => h))))
set_option maxRecDepth 20000 in
theorem bX4_spread_22 {X : pz_C} {G : pz_Gx} {rm : Room} (hX : pz_X X cX4_spread 7 RX4) (hrm : pz_rm X = rm) (hGX : pz_GX X G) (hOk : pz_OK G) (gh : gt_Jx4a65c_size_8abf5) (hr_Jx4a65c_size_8abf5 : rm_Jx4a65c_size_8abf5.frames + 1 ≤ rm.frames ∧ 8 + (1 + 11) + rm_Jx4a65c_size_8abf5.locals ≤ rm.locals) : ∀ lv st g c s, (zo_cV rm 1 0 5 rm_Jx4a65c_size_8abf5.cells rm_Jx4a65c_size_8abf5.slots (pr_Jx4a65c_size_8abf5 gh) (po_Jx4a65c_size_8abf5 gh) (zo_ki (zo_ic_ge 94 (pz_Z X 7)))) 22 lv st g c s → pz_Z X 7 22 lv st g c s := by
  subst hrm
  exact (zs_csF hX hGX (C := RJx4a65c) (T := TJx4a65c) (N := 3) rfl (ct_Jx4a65c_size_8abf5 hOk gh) (hOk.2.1) mw_d5bce3b2 mw_e0c83bb7 mw_8c7bf081 mw_dd3bf01c mw_d1eac4b0 (by decide +kernel) hr_Jx4a65c_size_8abf5 dX4_spread_22 (zs_ki (zs_ic_ge hX dX4_spread_27 (by decide) (fun _ _ _ _ _ _ h => h))))
set_option maxRecDepth 20000 in
theorem bX4_spread_30 {X : pz_C} (hX : pz_X X cX4_spread 7 RX4) : ∀ lv st g c s, (zo_al 1 0 (zo_get 6 0 (zo_il 2 4 (pz_Z X 7)))) 30 lv st g c s → pz_Z X 7 30 lv st g c s := (zs_aload_n hX dX4_spread_30 rfl (zs_get hX (C := RX4) (T := TX4) (N := 5) rfl in_X4 (by decide) mw_6a265c56 dX4_spread_31 (zs_iload hX dX4_spread_34 (fun _ _ _ _ _ h => h))))
set_option maxRecDepth 20000 in
theorem bX4_spread_36 {X : pz_C} {G : pz_Gx} {rm : Room} (hX : pz_X X cX4_spread 7 RX4) (hrm : pz_rm X = rm) (hGX : pz_GX X G) (hOk : pz_OK G) (gh : gt_Jx4a65c_get_915e3) (hr_Jx4a65c_get_915e3 : rm_Jx4a65c_get_915e3.frames + 1 ≤ rm.frames ∧ 8 + (2 + 11) + rm_Jx4a65c_get_915e3.locals ≤ rm.locals) : ∀ lv st g c s, (zo_cV rm 1 1 5 rm_Jx4a65c_get_915e3.cells rm_Jx4a65c_get_915e3.slots (pr_Jx4a65c_get_915e3 gh) (po_Jx4a65c_get_915e3 gh) (zo_kr (zo_cast1 5 (zo_as 2 5 (zo_ic 1 (0) (zo_is 2 6 (pz_Z X 7))))))) 36 lv st g c s → pz_Z X 7 36 lv st g c s := by
  subst hrm
  exact (zs_csF hX hGX (C := RJx4a65c) (T := TJx4a65c) (N := 3) rfl (ct_Jx4a65c_get_915e3 hOk gh) (hOk.2.2.1) mw_3d0b9f87 mw_50a82afc mw_e81a0f1b mw_dd3bf01c mw_817361af (by decide +kernel) hr_Jx4a65c_get_915e3 dX4_spread_36 (zs_kr (by first | exact Or.inl ⟨_, rfl⟩ | exact Or.inr ⟨_, rfl⟩) (zs_cast1 hX (C := RX3) (T := TX3) (N := 11) rfl mw_e6efc03c dX4_spread_41 (zs_astore hX dX4_spread_44 (by decide) (zs_iconst hX dX4_spread_46 (by decide) (zs_istore hX dX4_spread_47 (by decide) (fun _ _ _ _ _ h => h)))))))
set_option maxRecDepth 20000 in
theorem bX4_spread_49 {X : pz_C} (hX : pz_X X cX4_spread 7 RX4) : ∀ lv st g c s, (zo_il 2 6 (zo_ic 2 (13) (zo_ic_ge 88 (pz_Z X 7)))) 49 lv st g c s → pz_Z X 7 49 lv st g c s := (zs_iload hX dX4_spread_49 (zs_bipush hX dX4_spread_51 (by decide) (zs_ic_ge hX dX4_spread_53 (by decide) (fun _ _ _ _ _ _ h => h))))
set_option maxRecDepth 20000 in
theorem bX4_spread_56 {X : pz_C} (hX : pz_X X cX4_spread 7 RX4) : ∀ lv st g c s, (zo_al 2 5 (zo_get 5 7 (zo_il 2 6 (zo_zald (zo_if_eq 82 (pz_Z X 7)))))) 56 lv st g c s → pz_Z X 7 56 lv st g c s := (zs_aload hX dX4_spread_56 (zs_get hX (C := RX3) (T := TX3) (N := 11) rfl in_X3 (by decide) mw_324d2fc6 dX4_spread_58 (zs_iload hX dX4_spread_61 (zs_zald hX dX4_spread_63 (zs_if_eq hX dX4_spread_64 (by decide) (fun _ _ _ _ _ _ h => h))))))
set_option maxRecDepth 20000 in
theorem bX4_spread_67 {X : pz_C} (hX : pz_X X cX4_spread 7 RX4) : ∀ lv st g c s, (zo_al 1 0 (zo_al 2 5 (zo_il 2 6 (zo_il 1 1 (zo_il 1 2 (pz_Z X 7)))))) 67 lv st g c s → pz_Z X 7 67 lv st g c s := (zs_aload_n hX dX4_spread_67 rfl (zs_aload hX dX4_spread_68 (zs_iload hX dX4_spread_70 (zs_iload_n hX dX4_spread_72 rfl (zs_iload_n hX dX4_spread_73 rfl (fun _ _ _ _ _ h => h))))))
set_option maxRecDepth 20000 in
theorem bX4_spread_74 {X : pz_C} {G : pz_Gx} {rm : Room} (hX : pz_X X cX4_spread 7 RX4) (hrm : pz_rm X = rm) (hGX : pz_GX X G) (hOk : pz_OK G) (gh : gt_X4_ride) (hr_X4_ride : rm_X4_ride.frames + 1 ≤ rm.frames ∧ 8 + (11 + 11) + rm_X4_ride.locals ≤ rm.locals) : ∀ lv st g c s, (zo_cV rm 6 4 3 rm_X4_ride.cells rm_X4_ride.slots (pr_X4_ride gh) (po_X4_ride gh) (zo_kz (zo_if_eq 82 (pz_Z X 7)))) 74 lv st g c s → pz_Z X 7 74 lv st g c s := by
  subst hrm
  exact (zs_csV hX hGX (C := RX4) (T := TX4) (N := 5) rfl (ct_X4_ride hOk gh) mw_85f37019 mw_7fea20e5 mw_ac647976 mw_5ae0c28b mw_79337aeb (by decide +kernel) hr_X4_ride dX4_spread_74 (zs_kz (zs_if_eq hX dX4_spread_77 (by decide) (fun _ _ _ _ _ _ h => h))))
set_option maxRecDepth 20000 in
theorem bX4_spread_80 {X : pz_C} (hX : pz_X X cX4_spread 7 RX4) : ∀ lv st g c s, (zo_ic 1 (1) (zo_is 1 3 (pz_Z X 7))) 80 lv st g c s → pz_Z X 7 80 lv st g c s := (zs_iconst hX dX4_spread_80 (by decide) (zs_istore_n hX dX4_spread_81 rfl (by decide) (fun _ _ _ _ _ h => h)))
set_option maxRecDepth 20000 in
theorem bX4_spread_82 {X : pz_C} (hX : pz_X X cX4_spread 7 RX4) : ∀ lv st g c s, (zo_inc 6 (1) (zo_goto 49 (pz_Z X 7))) 82 lv st g c s → pz_Z X 7 82 lv st g c s := (zs_iinc hX dX4_spread_82 (by decide) (by decide) (zs_goto hX dX4_spread_85 (by decide) (fun _ _ _ _ _ _ h => h)))
set_option maxRecDepth 20000 in
theorem bX4_spread_88 {X : pz_C} (hX : pz_X X cX4_spread 7 RX4) : ∀ lv st g c s, (zo_inc 4 (1) (zo_goto 16 (pz_Z X 7))) 88 lv st g c s → pz_Z X 7 88 lv st g c s := (zs_iinc hX dX4_spread_88 (by decide) (by decide) (zs_goto hX dX4_spread_91 (by decide) (fun _ _ _ _ _ _ h => h)))
set_option maxRecDepth 20000 in
theorem bX4_spread_94 {X : pz_C} {rm : Room} {E : Option pz_V → pz_H → Prop} (hX : pz_X X cX4_spread 7 RX4) (hR : pz_Rt X cX4_spread 7 (some .boolean) rm E) : ∀ lv st g c s, (zo_il 1 3 (zo_rz rm E)) 94 lv st g c s → pz_Z X 7 94 lv st g c s := (zs_iload_n hX dX4_spread_94 rfl (zs_rz hR dX4_spread_95))
def rm_X4_spread : Room := { frames := 3, cells := 0, slots := 0, locals := 64 }
abbrev gt_X4_spread : Type := (Nat × Nat × Nat) × (Nat × Nat × Nat × Nat) × Int32 × (Nat → Nat) × ((Nat → Int32) × (Nat → Int32)) × (Nat × (Nat → lr_T)) × ((Nat → Nat) × (Nat → List (Int32 × Int32)) × (Nat → Int32) × (Nat → Int32))
def pr_X4_spread : gt_X4_spread → List pz_V → pz_H → Prop := fun ((nt, lb, to), (la, pa, na, sa), fd, Wa, (w, so), (nl, L), (fp, Z, N, C)) av g => av = [.inr (.inr (some nt)), .inl (nI (lb + 1)), .inl (nI to)] ∧ lb < 6 ∧ to < 100 ∧ ntS g nt la pa na sa fd Wa ∧ nlS g la nl L ∧ (∀ i, i < nl → lrW g (L i) fd Z) ∧ plS g pa fp Z N C ∧ g (Wa lb) = some ([11, lb], ar_i 100 w) ∧ (∃ wl, g (Wa (lb + 1)) = some ([11, lb + 1], ar_i 100 wl)) ∧ g sa = some ([12], ar_i 100 so)
def po_X4_spread : gt_X4_spread → List pz_V → pz_H → Option pz_V → pz_H → Prop := fun ((_, lb, to), (_, _, _, sa), fd, Wa, (w, so), (nl, L), (_, Z, _, C)) _ g v g' => hg (fun b => b = [12] ∨ b = [11, lb + 1]) g g' ∧ ∃ w0 so' wl' f', (∀ j, j < 100 → w0 j = 2147483647) ∧ (so', wl', f') = sp_n L fd Z to lb w C (so, w0, 0) nl ∧ v = some (.inl f') ∧ g' sa = some ([12], ar_i 100 so') ∧ g' (Wa (lb + 1)) = some ([11, lb + 1], ar_i 100 wl')
set_option maxRecDepth 20000 in
set_option maxHeartbeats 4000000 in
theorem ct_X4_spread {G : pz_Gx} (hOk : pz_OK G) (gh : gt_X4_spread) : pz_M G yX4_spread cX4_spread 7 (some .boolean) rm_X4_spread (pr_X4_spread gh) (po_X4_spread gh) := by
  obtain ⟨⟨nt, lb, to⟩, ⟨la, pa, na, sa⟩, fd, Wa, ⟨w, so0⟩, ⟨nl, L⟩, fp, Z, N, C⟩ := gh
  refine pz_ofZ (by decide) hOk.1 (Or.inr (Or.inr (Or.inl rfl))) ?_ ?_
  · rintro av g ⟨rfl, -⟩
    exact Nat.le_of_ble_eq_true rfl
  · rintro X hX hGX hrm - av g ⟨rfl, hlb, hto, hnt, hnl, hW, hpS, hw, ⟨wl00, hwl00⟩, hso⟩ hR
    have hnl40 : nl ≤ 40 := hnl.1
    have loop : ∀ (w0 : Nat → Int32), (∀ j, j < 100 → w0 j = 2147483647) → ∀ (m k : Nat) (so wl : Nat → Int32) (f : Int32) (gk : pz_H), k + m = nl → hg (fun b => b = [12] ∨ b = [11, lb + 1]) g gk → gk sa = some ([12], ar_i 100 so) → gk (Wa (lb + 1)) = some ([11, lb + 1], ar_i 100 wl) → (so, wl, f) = sp_n L fd Z to lb w C (so0, w0, 0) k → pz_Z X 7 16 [(4, .inl (nI k)), (3, .inl f), (0, .inr (.inr (some nt))), (1, .inl (nI (lb + 1))), (2, .inl (nI to))] [] gk 0 0 := by
      intro w0 hw0 m
      induction m with
      | zero =>
        intro k so wl f gk hk hS hs hl hr
        obtain rfl : k = nl := by omega
        obtain ⟨-, ⟨-, mc, ed, hls, -⟩, -⟩ := nlS_mono hS (by simp) hnl
        refine bX4_spread_16 hX _ _ _ _ _ ⟨_, _, _, (ntS_mono hS (by simp) hnt).1, rfl, ?_⟩
        refine bX4_spread_22 hX hrm hGX hOk (la, nI k) (by decide) _ _ _ _ _ ⟨Nat.le_of_ble_eq_true rfl, ⟨la, [], [5], _, rfl, hls⟩, Nat.le_of_ble_eq_true rfl, Nat.le_of_ble_eq_true rfl, Nat.le_of_ble_eq_true rfl, ⟨rfl, [5], _, hls, rfl⟩, ?_⟩
        rintro v g' ⟨rfl, rfl⟩ x hx
        cases hx
        refine ⟨fun _ => ?_, fun q => absurd (Int32.le_refl _) q⟩
        refine bX4_spread_94 hX hR _ _ _ _ _ ⟨?_, Nat.le_refl _, Nat.le_refl _, hS, w0, so, wl, f, hw0, hr, rfl, hs, hl⟩
        have := sp_n01 (L := L) (fd := fd) (Z := Z) (to := to) (lb := lb) (w := w) (C := C) (s := (so0, w0, 0)) (Or.inl rfl) k
        rw [← hr] at this
        exact this
      | succ m ih =>
        intro k so wl f gk hk hS hs hl hr
        have hnt' := ntS_mono hS (by simp) hnt
        obtain ⟨-, hls0, hlr, huq⟩ := nlS_mono hS (by simp) hnl
        obtain ⟨-, mc, ed, hls, -⟩ := id hls0
        refine bX4_spread_16 hX _ _ _ _ _ ⟨_, _, _, hnt'.1, rfl, ?_⟩
        refine bX4_spread_22 hX hrm hGX hOk (la, nI nl) (by decide) _ _ _ _ _ ⟨Nat.le_of_ble_eq_true rfl, ⟨la, [], [5], _, rfl, hls⟩, Nat.le_of_ble_eq_true rfl, Nat.le_of_ble_eq_true rfl, Nat.le_of_ble_eq_true rfl, ⟨rfl, [5], _, hls, rfl⟩, ?_⟩
        rintro v g' ⟨rfl, rfl⟩ x hx
        cases hx
        refine ⟨fun q => absurd ((ni_le (by omega) (by omega)).mp q) (by omega), fun _ => ?_⟩
        refine bX4_spread_30 hX _ _ _ _ _ ⟨_, _, _, hnt'.1, rfl, ?_⟩
        refine bX4_spread_36 hX hrm hGX hOk (la, k, [5], [6], nl, fun i => lr_h (L i)) (by decide) _ _ _ _ _ ⟨Nat.le_of_ble_eq_true rfl, ⟨la, [.inl (nI k)], [5], _, rfl, hls⟩, Nat.le_of_ble_eq_true rfl, Nat.le_of_ble_eq_true rfl, Nat.le_of_ble_eq_true rfl, ⟨rfl, by omega, hls0⟩, ?_⟩
        rintro v g2 ⟨rfl, rfl⟩ x hx
        cases hx
        have hokg := hnl.2.2.1 k (by omega)
        have hWg := hW k (by omega)
        have hnext : ∀ (so2 wl2 : Nat → Int32) (f2 : Int32) (g3 : pz_H), hg (fun b => b = [12] ∨ b = [11, lb + 1]) g g3 → g3 sa = some ([12], ar_i 100 so2) → g3 (Wa (lb + 1)) = some ([11, lb + 1], ar_i 100 wl2) → (so2, wl2, f2) = sp_l (L k) fd Z to lb w C (so, wl, f) 13 → pz_Z X 7 16 [(4, .inl (nI (k + 1))), (3, .inl f2), (0, .inr (.inr (some nt))), (1, .inl (nI (lb + 1))), (2, .inl (nI to))] [] g3 0 0 := by
          intro so2 wl2 f2 g3 hS3 hs3 hl3 hr3
          refine ih (k + 1) so2 wl2 f2 g3 (by omega) hS3 hs3 hl3 ?_
          rw [hr3, hr]
          rfl
        have eh : (fun i => lr_h (L i)) k = lr_h (L k) := rfl
        rw [eh]
        generalize L k = x at hokg hWg hnext ⊢
        obtain ⟨⟨u, h⟩, ⟨La, Ra, Rd⟩, ⟨wd, n, dw, lw⟩, ⟨f1, f2, f3⟩, dl, ll⟩ := x
        obtain ⟨rn, A, B, hTk, hrn, hAB⟩ := hWg
        have h01 := fun r => lr_run_01 hokg fd r
        obtain ⟨o1, o2, o3, o4, o5, o6, o7⟩ := hokg
        have o2' := lnH_mono hS (by simp) o2
        refine ⟨_, _, o2'.1, ?_⟩
        have rows : ∀ (m2 r : Nat) (so2 wl2 : Nat → Int32) (f2' : Int32) (g3 : pz_H), r + m2 = 13 → hg (fun b => b = [12] ∨ b = [11, lb + 1]) g g3 → g3 sa = some ([12], ar_i 100 so2) → g3 (Wa (lb + 1)) = some ([11, lb + 1], ar_i 100 wl2) → (so2, wl2, f2') = sp_l ((u, h), (La, Ra, Rd), (wd, n, dw, lw), (f1, f2, f3), dl, ll) fd Z to lb w C (so, wl, f) r → pz_Z X 7 49 [(6, .inl (nI r)), (5, .inr (.inr (some h))), (4, .inl (nI k)), (3, .inl f2'), (0, .inr (.inr (some nt))), (1, .inl (nI (lb + 1))), (2, .inl (nI to))] [] g3 0 0 := by
          intro m2
          induction m2 with
          | zero =>
            intro r so2 wl2 f2' g3 hr13 hS3 hs3 hl3 hr3
            obtain rfl : r = 13 := by omega
            refine bX4_spread_49 hX _ _ _ _ _ ⟨fun _ => ?_, fun q => absurd (show (13 : Int32) ≤ nI 13 by decide) q⟩
            refine bX4_spread_88 hX _ _ _ _ _ ?_
            refine pz_lsub (lv' := [(4, .inl (nI (k + 1))), (3, .inl f2'), (0, .inr (.inr (some nt))), (1, .inl (nI (lb + 1))), (2, .inl (nI to))]) ⟨ni_inc, rfl, rfl, rfl, rfl, trivial⟩ ?_
            exact hnext so2 wl2 f2' g3 hS3 hs3 hl3 hr3
          | succ m2 ih2 =>
            intro r so2 wl2 f2' g3 hr13 hS3 hs3 hl3 hr3
            have hL3 := lnH_mono hS3 (by simp) o2
            obtain ⟨t7, tA, tB, -⟩ := lrT_mono hS3 _ (by simp) hTk
            have hrc : (nI r).toNatClampNeg = r := ni_cl (by omega)
            have hri : vp_in (nI r) 13 := ni_in (by omega) (by omega)
            have step : ∀ (so4 wl4 : Nat → Int32) (f4 : Int32) (g4 : pz_H) (lv : pz_L), pz_all lv [(6, .inl (nI r)), (5, .inr (.inr (some h))), (4, .inl (nI k)), (3, .inl f4), (0, .inr (.inr (some nt))), (1, .inl (nI (lb + 1))), (2, .inl (nI to))] → hg (fun b => b = [12] ∨ b = [11, lb + 1]) g g4 → g4 sa = some ([12], ar_i 100 so4) → g4 (Wa (lb + 1)) = some ([11, lb + 1], ar_i 100 wl4) → (so4, wl4, f4) = sp_r ((u, h), (La, Ra, Rd), (wd, n, dw, lw), (f1, f2, f3), dl, ll) fd Z to lb w C r (so2, wl2, f2') → pz_Z X 7 82 lv [] g4 0 0 := by
              intro so4 wl4 f4 g4 lv hlv hS4 hs4 hl4 hr4
              refine pz_lsub hlv ?_
              refine bX4_spread_82 hX _ _ _ _ _ ?_
              refine pz_lsub (lv' := [(6, .inl (nI (r + 1))), (5, .inr (.inr (some h))), (4, .inl (nI k)), (3, .inl f4), (0, .inr (.inr (some nt))), (1, .inl (nI (lb + 1))), (2, .inl (nI to))]) ⟨ni_inc, rfl, rfl, rfl, rfl, rfl, rfl, trivial⟩ ?_
              refine ih2 (r + 1) so4 wl4 f4 g4 (by omega) hS4 hs4 hl4 ?_
              rw [hr4, hr3]
              rfl
            refine bX4_spread_49 hX _ _ _ _ _ ⟨fun q => absurd ((ni_le (a := 13) (by omega) (by omega)).mp q) (by omega), fun _ => ?_⟩
            refine bX4_spread_56 hX _ _ _ _ _ ⟨_, _, _, hL3.1, rfl, _, _, _, t7, hri, ?_⟩
            rw [hrc, hrn r (by omega)]
            refine ⟨fun q => ?_, fun q => ?_⟩
            · refine step so2 wl2 f2' g3 _ ⟨rfl, rfl, rfl, rfl, rfl, rfl, rfl, trivial⟩ hS3 hs3 hl3 ?_
              unfold sp_r
              dsimp only
              rw [if_neg (by rw [q]; decide)]
            · have hr1 : lr_run ((u, h), (La, Ra, Rd), (wd, n, dw, lw), (f1, f2, f3), dl, ll) fd r = 1 := (h01 r).resolve_left q
              refine bX4_spread_67 hX _ _ _ _ _ ?_
              refine bX4_spread_74 hX hrm hGX hOk ((nt, h, r, lb, to), (la, pa, na, sa), fd, Wa, (w, wl2, so2), (u, La, Ra, Rd), (wd, n, dw, lw), (f1, f2, f3), (A r, B r), (fp, Z, N, C)) (by decide) _ _ _ _ _ ⟨Nat.le_of_ble_eq_true rfl, ⟨nt, [.inr (.inr (some h)), .inl (nI r), .inl (nI (lb + 1)), .inl (nI to)], [1], _, rfl, (ntS_mono hS3 (by simp) hnt).1⟩, Nat.le_of_ble_eq_true rfl, Nat.le_of_ble_eq_true rfl, Nat.le_of_ble_eq_true rfl, ⟨rfl, by omega, hlb, hto, o1, ntS_mono hS3 (by simp) hnt, hL3, o7, plS_mono hS3 (by simp) hpS, tA r (by omega), tB r (by omega), hS3 _ _ _ hw (by simp), hl3, hs3⟩, ?_⟩
              rintro v g4 ⟨h4, so4, wl4, e4, fe4, er, rfl, hs4, hl4⟩ x hx -
              cases hx
              rw [rd_congr n (fun j hj => hAB r (by omega) ((hrn r (by omega)).trans hr1) j hj)] at er
              have er' : (so4, wl4, (if e4 = 0 then f2' else 1)) = sp_r ((u, h), (La, Ra, Rd), (wd, n, dw, lw), (f1, f2, f3), dl, ll) fd Z to lb w C r (so2, wl2, f2') := by
                unfold sp_r
                dsimp only
                rw [if_pos hr1]
                show _ = ((rd_k f1 (lr_A ((u, h), (La, Ra, Rd), (wd, n, dw, lw), (f1, f2, f3), dl, ll) fd Z r) (lr_B ((u, h), (La, Ra, Rd), (wd, n, dw, lw), (f1, f2, f3), dl, ll) fd Z r) to lb w C (so2, wl2, 0, 2147483647) n).1, (rd_k f1 (lr_A ((u, h), (La, Ra, Rd), (wd, n, dw, lw), (f1, f2, f3), dl, ll) fd Z r) (lr_B ((u, h), (La, Ra, Rd), (wd, n, dw, lw), (f1, f2, f3), dl, ll) fd Z r) to lb w C (so2, wl2, 0, 2147483647) n).2.1, if (rd_k f1 (lr_A ((u, h), (La, Ra, Rd), (wd, n, dw, lw), (f1, f2, f3), dl, ll) fd Z r) (lr_B ((u, h), (La, Ra, Rd), (wd, n, dw, lw), (f1, f2, f3), dl, ll) fd Z r) to lb w C (so2, wl2, 0, 2147483647) n).2.2.1 = 0 then f2' else 1)
                rw [← er]
              refine ⟨fun q2 => ?_, fun q2 => ?_⟩
              · rw [if_pos q2] at er'
                exact step so4 wl4 f2' g4 _ ⟨rfl, rfl, rfl, rfl, rfl, rfl, rfl, trivial⟩ (hg_tr hS3 h4) hs4 hl4 er'
              · rw [if_neg q2] at er'
                refine bX4_spread_80 hX _ _ _ _ _ ?_
                exact step so4 wl4 1 g4 _ ⟨rfl, rfl, rfl, rfl, rfl, rfl, rfl, trivial⟩ (hg_tr hS3 h4) hs4 hl4 er'
        refine pz_lsub (lv' := [(6, .inl (nI 0)), (5, .inr (.inr (some h))), (4, .inl (nI k)), (3, .inl f), (0, .inr (.inr (some nt))), (1, .inl (nI (lb + 1))), (2, .inl (nI to))]) ⟨rfl, rfl, rfl, rfl, rfl, rfl, rfl, trivial⟩ ?_
        exact rows 13 0 so wl f g2 (by omega) hS hs hl rfl
    obtain ⟨hn1, ona, hna, hona⟩ := id hnt
    refine bX4_spread_0 hX _ _ _ _ _ ⟨_, _, _, hn1, rfl, _, _, _, hna, ni_in (by omega) (by omega), ?_⟩
    rw [ni_cl (by omega), hona (lb + 1) (by omega)]
    refine bX4_spread_8 hX hrm hGX hOk (Wa (lb + 1), 2147483647, [11, lb + 1], 100, wl00) (by decide) _ _ _ _ _ ⟨Nat.le_of_ble_eq_true rfl, Nat.le_of_ble_eq_true rfl, Nat.le_of_ble_eq_true rfl, Nat.le_of_ble_eq_true rfl, ⟨rfl, hwl00, by omega⟩, ?_⟩
    rintro v g' ⟨rfl, w0, rfl, hw0⟩ _
    refine pz_lsub (lv' := [(4, .inl (nI 0)), (3, .inl 0), (0, .inr (.inr (some nt))), (1, .inl (nI (lb + 1))), (2, .inl (nI to))]) ⟨rfl, rfl, rfl, rfl, rfl, trivial⟩ ?_
    exact loop w0 hw0 nl 0 so0 w0 0 _ (by omega) (hg_up hg_rf hwl00 (Or.inr rfl)) (up_ne hso hwl00 (by simp)) up_at rfl
