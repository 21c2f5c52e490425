/-! a line with all that is known of it; the lines of a net -/
abbrev lr_T : Type := (Nat × Nat) × ((Nat → Nat) × (Nat → Nat) × (Nat → Nat)) × (Int32 × Nat × Option Nat × Option Nat) × ((Nat → Int32) × (Nat → Int32) × (Nat → Int32)) × (List (Int32 × Int32) × List (Int32 × Int32 × Int32))
abbrev lr_u (x : lr_T) : Nat := x.1.1
abbrev lr_h (x : lr_T) : Nat := x.1.2
abbrev lr_n (x : lr_T) : Nat := x.2.2.1.2.1
abbrev lr_f1 (x : lr_T) : Nat → Int32 := x.2.2.2.1.1
def lr_run (x : lr_T) (fd : Int32) (i : Nat) : Int32 := dw_run x.2.2.1.1 x.2.2.2.2.1 (fd + nI i)
def lr_A (x : lr_T) (fd : Int32) (Z : Nat → List (Int32 × Int32)) (i k : Nat) : Int32 := x.2.2.2.1.2.1 k + wt_s (fd + nI i) x.2.2.2.2.2 x.2.2.2.1.1 Z k
def lr_B (x : lr_T) (fd : Int32) (Z : Nat → List (Int32 × Int32)) (i k : Nat) : Int32 := x.2.2.2.1.2.2 k + wt_s (fd + nI i) x.2.2.2.2.2 x.2.2.2.1.1 Z k
def lrOK (g : pz_H) : lr_T → Prop := fun ((u, h), (La, Ra, Rd), (wd, n, dw, lw), (f1, f2, f3), (dl, ll)) => n ≤ 12 ∧ lnH g u h La Ra Rd wd n dw lw f1 f2 f3 ∧ dw_ch g u dw dl ∧ (∀ q ∈ dl, q.2 = 0 ∨ q.2 = 1) ∧ lt_ch g u lw ll ∧ (∀ q ∈ ll, ∃ k, k < 12 ∧ q.1 = nI k) ∧ ∀ k, k < n → ∃ p, p < 100 ∧ f1 k = nI p
def lrT (g : pz_H) (x : lr_T) (rn : Nat → Int32) (A B : Nat → Nat → Int32) : Prop := lnT g x.1.1 x.2.1.1 x.2.1.2.1 x.2.1.2.2 rn A B
def lrW (g : pz_H) (x : lr_T) (fd : Int32) (Z : Nat → List (Int32 × Int32)) : Prop := ∃ rn A B, lrT g x rn A B ∧ (∀ i, i < 13 → rn i = lr_run x fd i) ∧ ∀ i, i < 13 → rn i = 1 → ∀ k, k < lr_n x → A i k = lr_A x fd Z i k ∧ B i k = lr_B x fd Z i k
theorem lrOK_mono {g g' : pz_H} {S : List Nat → Prop} (hh : hg S g g') (x : lr_T) (hS : (¬ S [30, lr_u x] ∧ ¬ S [31, lr_u x] ∧ ¬ S [32, lr_u x] ∧ ¬ S [33, lr_u x] ∧ ¬ S [35, lr_u x] ∧ ¬ S [37, lr_u x]) ∧ (∀ d, ¬ S [40, lr_u x, d]) ∧ ¬ S [41, lr_u x]) (h : lrOK g x) : lrOK g' x := by
  obtain ⟨⟨u, h0⟩, ⟨La, Ra, Rd⟩, ⟨wd, n, dw, lw⟩, ⟨f1, f2, f3⟩, dl, ll⟩ := x
  obtain ⟨a1, a2, a3, a4, a5, a6, a7⟩ := h
  exact ⟨a1, lnH_mono hh hS.1 a2, dw_mono hh hS.2.1 _ _ a3, a4, lt_mono hh hS.2.2 _ _ a5, a6, a7⟩
theorem lrT_mono {g g' : pz_H} {S : List Nat → Prop} (hh : hg S g g') (x : lr_T) {rn : Nat → Int32} {A B : Nat → Nat → Int32} (hS : ¬ S [34, lr_u x] ∧ (∀ i, ¬ S [36, lr_u x, i]) ∧ (∀ i, ¬ S [38, lr_u x, i]) ∧ ¬ S [39, lr_u x]) (h : lrT g x rn A B) : lrT g' x rn A B := by
  obtain ⟨a1, a2, a3, f, a4⟩ := h
  exact ⟨hh _ _ _ a1 hS.1, fun i hi => hh _ _ _ (a2 i hi) (hS.2.1 i), fun i hi => hh _ _ _ (a3 i hi) (hS.2.2.1 i), f, hh _ _ _ a4 hS.2.2.2⟩
theorem lrW_mono {g g' : pz_H} {S : List Nat → Prop} (hh : hg S g g') (x : lr_T) {fd : Int32} {Z : Nat → List (Int32 × Int32)} (hS : ¬ S [34, lr_u x] ∧ (∀ i, ¬ S [36, lr_u x, i]) ∧ (∀ i, ¬ S [38, lr_u x, i]) ∧ ¬ S [39, lr_u x]) (h : lrW g x fd Z) : lrW g' x fd Z := by
  obtain ⟨rn, A, B, h1, h2⟩ := h
  exact ⟨rn, A, B, lrT_mono hh x hS h1, h2⟩
/-- the net's lines: where the list lies, each line's cells, the serial numbers apart -/
def nlS (g : pz_H) (la nl : Nat) (L : Nat → lr_T) : Prop := nl ≤ 40 ∧ lsS g la [5] [6] nl (fun i => lr_h (L i)) ∧ (∀ i, i < nl → lrOK g (L i)) ∧ ∀ i j, i < nl → j < nl → lr_u (L i) = lr_u (L j) → i = j
theorem nlS_mono {g g' : pz_H} {S : List Nat → Prop} (hh : hg S g g') {la nl : Nat} {L : Nat → lr_T} (hS : (¬ S [5] ∧ ¬ S [6]) ∧ ∀ u, (¬ S [30, u] ∧ ¬ S [31, u] ∧ ¬ S [32, u] ∧ ¬ S [33, u] ∧ ¬ S [35, u] ∧ ¬ S [37, u]) ∧ (∀ d, ¬ S [40, u, d]) ∧ ¬ S [41, u]) (h : nlS g la nl L) : nlS g' la nl L := by
  obtain ⟨h0, h1, h2, h3⟩ := h
  exact ⟨h0, lsS_mono hh hS.1 h1, fun i hi => lrOK_mono hh (L i) (hS.2 _) (h2 i hi), h3⟩
set_option maxRecDepth 20000 in
theorem bX4_workOutRuns_0 {X : pz_C} (hX : pz_X X cX4_workOutRuns 3 RX4) : ∀ lv st g c s, (zo_al 1 0 (zo_il 1 1 (zo_ic 2 (86400) (zo_idiv (zo_ic 1 (3) (zo_isub (zo_puti 6 4 (zo_ic 1 (0) (zo_is 1 2 (pz_Z X 3)))))))))) 0 lv st g c s → pz_Z X 3 0 lv st g c s := (zs_aload_n hX dX4_workOutRuns_0 rfl (zs_iload_n hX dX4_workOutRuns_1 rfl (zs_ldc hX dX4_workOutRuns_2 mw_90b4fc44 (zs_idiv hX dX4_workOutRuns_4 (zs_iconst hX dX4_workOutRuns_5 (by decide) (zs_isub hX dX4_workOutRuns_6 (zs_puti hX (C := RX4) (T := TX4) (N := 5) rfl in_X4 (by decide) mw_38b84c97 tyX4 tyX4_ok nmX4 (by decide +kernel) rfl dX4_workOutRuns_7 (zs_iconst hX dX4_workOutRuns_10 (by decide) (zs_istore_n hX dX4_workOutRuns_11 rfl (by decide) (fun _ _ _ _ _ h => h))))))))))
set_option maxRecDepth 20000 in
theorem bX4_workOutRuns_12 {X : pz_C} (hX : pz_X X cX4_workOutRuns 3 RX4) : ∀ lv st g c s, (zo_il 1 2 (zo_al 1 0 (zo_get 6 0 (pz_Z X 3)))) 12 lv st g c s → pz_Z X 3 12 lv st g c s := (zs_iload_n hX dX4_workOutRuns_12 rfl (zs_aload_n hX dX4_workOutRuns_13 rfl (zs_get hX (C := RX4) (T := TX4) (N := 5) rfl in_X4 (by decide) mw_6a265c56 dX4_workOutRuns_14 (fun _ _ _ _ _ h => h))))
set_option maxRecDepth 20000 in
theorem bX4_workOutRuns_17 {X : pz_C} {G : pz_Gx} {rm : Room} (hX : pz_X X cX4_workOutRuns 3 RX4) (hrm : pz_rm X = rm) (hGX : pz_GX X G) (hOk : pz_OK G) (gh : gt_Jx4a65c_size_8abf5) (hr_Jx4a65c_size_8abf5 : rm_Jx4a65c_size_8abf5.frames + 1 ≤ rm.frames ∧ 8 + (1 + 11) + rm_Jx4a65c_size_8abf5.locals ≤ rm.locals) : ∀ lv st g c s, (zo_cV rm 1 0 5 rm_Jx4a65c_size_8abf5.cells rm_Jx4a65c_size_8abf5.slots (pr_Jx4a65c_size_8abf5 gh) (po_Jx4a65c_size_8abf5 gh) (zo_ki (zo_ic_ge 55 (pz_Z X 3)))) 17 lv st g c s → pz_Z X 3 17 lv st g c s := by
  subst hrm
  exact (zs_csF hX hGX (C := RJx4a65c) (T := TJx4a65c) (N := 3) rfl (ct_Jx4a65c_size_8abf5 hOk gh) (hOk.2.1) mw_d5bce3b2 mw_e0c83bb7 mw_8c7bf081 mw_dd3bf01c mw_d1eac4b0 (by decide +kernel) hr_Jx4a65c_size_8abf5 dX4_workOutRuns_17 (zs_ki (zs_ic_ge hX dX4_workOutRuns_22 (by decide) (fun _ _ _ _ _ _ h => h))))
set_option maxRecDepth 20000 in
theorem bX4_workOutRuns_25 {X : pz_C} (hX : pz_X X cX4_workOutRuns 3 RX4) : ∀ lv st g c s, (zo_al 1 0 (zo_get 6 0 (zo_il 1 2 (pz_Z X 3)))) 25 lv st g c s → pz_Z X 3 25 lv st g c s := (zs_aload_n hX dX4_workOutRuns_25 rfl (zs_get hX (C := RX4) (T := TX4) (N := 5) rfl in_X4 (by decide) mw_6a265c56 dX4_workOutRuns_26 (zs_iload_n hX dX4_workOutRuns_29 rfl (fun _ _ _ _ _ h => h))))
set_option maxRecDepth 20000 in
theorem bX4_workOutRuns_30 {X : pz_C} {G : pz_Gx} {rm : Room} (hX : pz_X X cX4_workOutRuns 3 RX4) (hrm : pz_rm X = rm) (hGX : pz_GX X G) (hOk : pz_OK G) (gh : gt_Jx4a65c_get_915e3) (hr_Jx4a65c_get_915e3 : rm_Jx4a65c_get_915e3.frames + 1 ≤ rm.frames ∧ 8 + (2 + 11) + rm_Jx4a65c_get_915e3.locals ≤ rm.locals) : ∀ lv st g c s, (zo_cV rm 1 1 5 rm_Jx4a65c_get_915e3.cells rm_Jx4a65c_get_915e3.slots (pr_Jx4a65c_get_915e3 gh) (po_Jx4a65c_get_915e3 gh) (zo_kr (zo_cast1 5 (zo_al 1 0 (zo_get 6 4 (zo_al 1 0 (zo_get 6 1 (pz_Z X 3)))))))) 30 lv st g c s → pz_Z X 3 30 lv st g c s := by
  subst hrm
  exact (zs_csF hX hGX (C := RJx4a65c) (T := TJx4a65c) (N := 3) rfl (ct_Jx4a65c_get_915e3 hOk gh) (hOk.2.2.1) mw_3d0b9f87 mw_50a82afc mw_e81a0f1b mw_dd3bf01c mw_817361af (by decide +kernel) hr_Jx4a65c_get_915e3 dX4_workOutRuns_30 (zs_kr (by first | exact Or.inl ⟨_, rfl⟩ | exact Or.inr ⟨_, rfl⟩) (zs_cast1 hX (C := RX3) (T := TX3) (N := 11) rfl mw_e6efc03c dX4_workOutRuns_35 (zs_aload_n hX dX4_workOutRuns_38 rfl (zs_get hX (C := RX4) (T := TX4) (N := 5) rfl in_X4 (by decide) mw_38b84c97 dX4_workOutRuns_39 (zs_aload_n hX dX4_workOutRuns_42 rfl (zs_get hX (C := RX4) (T := TX4) (N := 5) rfl in_X4 (by decide) mw_41e0f833 dX4_workOutRuns_43 (fun _ _ _ _ _ h => h))))))))
set_option maxRecDepth 20000 in
theorem bX4_workOutRuns_46 {X : pz_C} {G : pz_Gx} {rm : Room} (hX : pz_X X cX4_workOutRuns 3 RX4) (hrm : pz_rm X = rm) (hGX : pz_GX X G) (hOk : pz_OK G) (gh : gt_X3_workOutRuns) (hr_X3_workOutRuns : rm_X3_workOutRuns.frames + 1 ≤ rm.frames ∧ 8 + (4 + 11) + rm_X3_workOutRuns.locals ≤ rm.locals) : ∀ lv st g c s, (zo_cV rm 5 2 3 rm_X3_workOutRuns.cells rm_X3_workOutRuns.slots (pr_X3_workOutRuns gh) (po_X3_workOutRuns gh) (zo_kv (zo_inc 2 (1) (zo_goto 12 (pz_Z X 3))))) 46 lv st g c s → pz_Z X 3 46 lv st g c s := by
  subst hrm
  exact (zs_csV hX hGX (C := RX3) (T := TX3) (N := 11) rfl (ct_X3_workOutRuns hOk gh) mw_6c948eaa mw_6628903d mw_38da72f5 mw_ad64dfa1 mw_e3148e5e (by decide +kernel) hr_X3_workOutRuns dX4_workOutRuns_46 (zs_kv (zs_iinc hX dX4_workOutRuns_49 (by decide) (by decide) (zs_goto hX dX4_workOutRuns_52 (by decide) (fun _ _ _ _ _ _ h => h)))))
set_option maxRecDepth 20000 in
theorem bX4_workOutRuns_55 {X : pz_C} {rm : Room} {E : Option pz_V → pz_H → Prop} (hX : pz_X X cX4_workOutRuns 3 RX4) (hR : pz_Rt X cX4_workOutRuns 3 none rm E) : ∀ lv st g c s, (zo_rv rm E) 55 lv st g c s → pz_Z X 3 55 lv st g c s := (zs_rv hR dX4_workOutRuns_55)
def rm_X4_workOutRuns : Room := { frames := 4, cells := 0, slots := 0, locals := 95 }
abbrev gt_X4_workOutRuns : Type := (Nat × Int32) × (Nat × Nat × Nat × Nat) × Int32 × (Nat → Nat) × (Nat × (Nat → lr_T)) × ((Nat → Nat) × (Nat → List (Int32 × Int32)) × (Nat → Int32) × (Nat → Int32))
def pr_X4_workOutRuns : gt_X4_workOutRuns → List pz_V → pz_H → Prop := fun ((nt, t), (la, pa, na, sa), fd0, Wa, (nl, L), (fp, Z, N, C)) av g => av = [.inr (.inr (some nt)), .inl t] ∧ ntS g nt la pa na sa fd0 Wa ∧ nlS g la nl L ∧ (∀ i, i < nl → ∃ rn A B, lrT g (L i) rn A B) ∧ plS g pa fp Z N C
def po_X4_workOutRuns : gt_X4_workOutRuns → List pz_V → pz_H → Option pz_V → pz_H → Prop := fun ((nt, t), (la, pa, na, sa), _, Wa, (nl, L), (_, Z, _, _)) _ g v g' => v = none ∧ hg (fun b => b = [1] ∨ ∃ u, lnSc u b) g g' ∧ ntS g' nt la pa na sa (t / 86400 - 3) Wa ∧ ∀ i, i < nl → lrW g' (L i) (t / 86400 - 3) Z
set_option maxRecDepth 20000 in
set_option maxHeartbeats 4000000 in
theorem ct_X4_workOutRuns {G : pz_Gx} (hOk : pz_OK G) (gh : gt_X4_workOutRuns) : pz_M G yX4_workOutRuns cX4_workOutRuns 3 none rm_X4_workOutRuns (pr_X4_workOutRuns gh) (po_X4_workOutRuns gh) := by
  obtain ⟨⟨nt, t⟩, ⟨la, pa, na, sa⟩, fd0, Wa, ⟨nl, L⟩, fp, Z, N, C⟩ := gh
  refine pz_ofZ (by decide) hOk.1 (Or.inl rfl) ?_ ?_
  · rintro av g ⟨rfl, -⟩
    exact Nat.le_of_ble_eq_true rfl
  · rintro X hX hGX hrm - av g ⟨rfl, ⟨hn, ona, hna, hona⟩, hnl, hT, hpS⟩ hR
    have hnl40 : nl ≤ 40 := hnl.1
    have loop : ∀ (m k : Nat) (gk : pz_H), k + m = nl → hg (fun b => b = [1] ∨ ∃ u, lnSc u b) g gk → ntS gk nt la pa na sa (t / 86400 - 3) Wa → (∀ i, i < k → lrW gk (L i) (t / 86400 - 3) Z) → (∀ i, k ≤ i → i < nl → ∃ rn A B, lrT gk (L i) rn A B) → pz_Z X 3 12 [(2, .inl (nI k)), (0, .inr (.inr (some nt))), (1, .inl t)] [] gk 0 0 := by
      intro m
      induction m with
      | zero =>
        intro k gk hk hS hnt hW _
        obtain rfl : k = nl := by omega
        obtain ⟨-, ⟨-, mc, ed, hls, -⟩, -⟩ := nlS_mono hS (by simp [lnSc]) hnl
        refine bX4_workOutRuns_12 hX _ _ _ _ _ ⟨_, _, _, hnt.1, rfl, ?_⟩
        refine bX4_workOutRuns_17 hX hrm hGX hOk (la, nI k) (by decide) _ _ _ _ _ ⟨Nat.le_of_ble_eq_true rfl, ⟨la, [], [5], _, rfl, hls⟩, Nat.le_of_ble_eq_true rfl, Nat.le_of_ble_eq_true rfl, Nat.le_of_ble_eq_true rfl, ⟨rfl, [5], _, hls, rfl⟩, ?_⟩
        rintro v g' ⟨rfl, rfl⟩ x hx
        cases hx
        refine ⟨fun _ => ?_, fun q => absurd (Int32.le_refl _) q⟩
        exact bX4_workOutRuns_55 hX hR _ _ _ _ _ ⟨Nat.le_refl _, Nat.le_refl _, rfl, hS, hnt, hW⟩
      | succ m ih =>
        intro k gk hk hS hnt hW hT'
        have hnl' := nlS_mono hS (by simp [lnSc]) hnl
        obtain ⟨-, hls0, hlr, huq⟩ := id hnl'
        obtain ⟨-, mc, ed, hls, -⟩ := id hls0
        refine bX4_workOutRuns_12 hX _ _ _ _ _ ⟨_, _, _, hnt.1, rfl, ?_⟩
        refine bX4_workOutRuns_17 hX hrm hGX hOk (la, nI nl) (by decide) _ _ _ _ _ ⟨Nat.le_of_ble_eq_true rfl, ⟨la, [], [5], _, rfl, hls⟩, Nat.le_of_ble_eq_true rfl, Nat.le_of_ble_eq_true rfl, Nat.le_of_ble_eq_true rfl, ⟨rfl, [5], _, hls, rfl⟩, ?_⟩
        rintro v g' ⟨rfl, rfl⟩ x hx
        cases hx
        refine ⟨fun q => absurd ((ni_le (by omega) (by omega)).mp q) (by omega), fun _ => ?_⟩
        refine bX4_workOutRuns_25 hX _ _ _ _ _ ⟨_, _, _, hnt.1, rfl, ?_⟩
        refine bX4_workOutRuns_30 hX hrm hGX hOk (la, k, [5], [6], nl, fun i => lr_h (L i)) (by decide) _ _ _ _ _ ⟨Nat.le_of_ble_eq_true rfl, ⟨la, [.inl (nI k)], [5], _, rfl, hls⟩, Nat.le_of_ble_eq_true rfl, Nat.le_of_ble_eq_true rfl, Nat.le_of_ble_eq_true rfl, ⟨rfl, by omega, hls0⟩, ?_⟩
        rintro v g2 ⟨rfl, rfl⟩ x hx
        cases hx
        have hok := hlr k (by omega)
        obtain ⟨rn, A, B, htk⟩ := hT' k (Nat.le_refl _) (by omega)
        have hpS' := plS_mono hS (by simp [lnSc]) hpS
        have hrest : ∀ i, i < nl → i ≠ k → lr_u (L i) ≠ lr_u (L k) := fun i hi hik z => hik (huq i k hi (by omega) z)
        have fin : ∀ g3 : pz_H, hg (lnSc (lr_u (L k))) g2 g3 → lrW g3 (L k) (t / 86400 - 3) Z → pz_Z X 3 12 [(2, .inl (nI (k + 1))), (0, .inr (.inr (some nt))), (1, .inl t)] [] g3 0 0 := by
          intro g3 h3 hw3
          refine ih (k + 1) g3 (by omega) (hg_tr hS (hg_mono h3 (fun b hb => Or.inr ⟨_, hb⟩))) (ntS_mono h3 (by simp [lnSc]) hnt) (fun i hi => ?_) (fun i hi1 hi2 => ?_)
          · by_cases hik : i = k
            · subst hik; exact hw3
            · exact lrW_mono h3 (L i) (by simp [lnSc, hrest i (by omega) hik]) (hW i (by omega))
          · obtain ⟨rn2, A2, B2, ht2⟩ := hT' i (by omega) hi2
            exact ⟨rn2, A2, B2, lrT_mono h3 (L i) (by simp [lnSc, hrest i hi2 (by omega)]) ht2⟩
        rcases hx : L k with ⟨⟨u, h⟩, ⟨La, Ra, Rd⟩, ⟨wd, n, dw, lw⟩, ⟨f1, f2, f3⟩, dl, ll⟩
        rw [hx] at hok htk fin
        obtain ⟨o1, o2, o3, o4, o5, o6, o7⟩ := hok
        have eh : (fun i => lr_h (L i)) k = h := by
          show lr_h (L k) = h
          rw [hx]
        rw [eh]
        refine ⟨_, _, o2.1, _, _, _, hnt.1, rfl, _, _, _, hnt.1, rfl, ?_⟩
        refine bX4_workOutRuns_46 hX hrm hGX hOk ((h, t / 86400 - 3, pa), u, (La, Ra, Rd), (wd, n, dw, lw), (f1, f2, f3), (dl, ll), (fp, Z, N, C)) (by decide) _ _ _ _ _ ⟨Nat.le_of_ble_eq_true rfl, ⟨h, [.inl (t / 86400 - 3), .inr (.inr (some pa))], [30, u], _, rfl, o2.1⟩, Nat.le_of_ble_eq_true rfl, Nat.le_of_ble_eq_true rfl, Nat.le_of_ble_eq_true rfl, ⟨rfl, o1, o2, o3, o4, o5, o6, o7, hpS', rn, A, B, htk⟩, ?_⟩
        rintro v g3 ⟨rfl, h3, rn3, A3, B3, t3, r3, ab3⟩ _
        refine pz_lsub (lv' := [(2, .inl (nI (k + 1))), (0, .inr (.inr (some nt))), (1, .inl t)]) ⟨ni_inc, rfl, rfl, trivial⟩ ?_
        exact fin g3 h3 ⟨rn3, A3, B3, t3, r3, ab3⟩
    refine bX4_workOutRuns_0 hX _ _ _ _ _ ⟨by decide, _, _, hn, Nat.le_of_ble_eq_true rfl, ?_⟩
    refine loop nl 0 _ (by omega) (hg_up hg_rf hn (Or.inl rfl)) ⟨up_at, ona, up_ne hna hn (by simp), hona⟩ (fun i hi => absurd hi (Nat.not_lt_zero i)) (fun i _ hi => ?_)
    obtain ⟨rn, A, B, ht⟩ := hT i hi
    exact ⟨rn, A, B, lrT_mono (hg_up (S := fun b => b = [1]) hg_rf hn rfl) (L i) (by simp) ht⟩
