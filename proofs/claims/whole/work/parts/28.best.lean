/-! LineTimes$Net.findBest: the rounds, by number of legs -/
def fb_f (x : Nat → Int32) : Nat → Int32
  | 0 => -1
  | k + 1 => if x (k + 1) = 2147483647 then fb_f x k else nI (k + 1)
theorem fb_congr {x y : Nat → Int32} : ∀ K, (∀ k, k ≤ K → x k = y k) → fb_f x K = fb_f y K
  | 0, _ => rfl
  | K + 1, h => by
    unfold fb_f
    rw [h (K + 1) (Nat.le_refl _), fb_congr K (fun k hk => h k (by omega))]
/-- K rounds were made: so and W by the round, fl whether the round spread -/
def fb_R (L : Nat → lr_T) (nl : Nat) (fd : Int32) (Z : Nat → List (Int32 × Int32)) (C : Nat → Int32) (from' to : Nat) (t : Int32) (K : Nat) (so W : Nat → Nat → Int32) (fl : Nat → Int32) : Prop :=
  (∀ p, p < 100 → so 0 p = if p = from' then t else 2147483647) ∧ (∀ p, p < 100 → W 0 p = if p = from' then t else 2147483647) ∧ fl 0 = 1 ∧ ∀ k, k < K → fl k ≠ 0 ∧ ∃ w0 : Nat → Int32, (∀ j, j < 100 → w0 j = 2147483647) ∧ (so (k + 1), W (k + 1), fl (k + 1)) = sp_n L fd Z to k (W k) C (so k, w0, 0) nl
def fbSc : List Nat → Prop := fun b => b = [1] ∨ (∃ u, lnSc u b) ∨ b = [12] ∨ ∃ i, b = [11, i]
def seqU (f : Nat → Nat → Int32) (k : Nat) (x : Nat → Int32) : Nat → Nat → Int32 := fun i => if i = k then x else f i
def seqV (f : Nat → Int32) (k : Nat) (x : Int32) : Nat → Int32 := fun i => if i = k then x else f i
theorem fb_ext {L : Nat → lr_T} {nl : Nat} {fd : Int32} {Z : Nat → List (Int32 × Int32)} {C : Nat → Int32} {from' to : Nat} {t : Int32} {K : Nat} {so W : Nat → Nat → Int32} {fl : Nat → Int32} (h : fb_R L nl fd Z C from' to t K so W fl) (hf : fl K ≠ 0) {w0 so2 w2 : Nat → Int32} {f2 : Int32} (hw : ∀ j, j < 100 → w0 j = 2147483647) (he : (so2, w2, f2) = sp_n L fd Z to K (W K) C (so K, w0, 0) nl) : fb_R L nl fd Z C from' to t (K + 1) (seqU so (K + 1) so2) (seqU W (K + 1) w2) (seqV fl (K + 1) f2) := by
  obtain ⟨h1, h2, h3, h4⟩ := h
  refine ⟨fun p hp => ?_, fun p hp => ?_, ?_, fun k hk => ?_⟩
  · rw [show seqU so (K + 1) so2 0 = so 0 from if_neg (by omega)]; exact h1 p hp
  · rw [show seqU W (K + 1) w2 0 = W 0 from if_neg (by omega)]; exact h2 p hp
  · rw [show seqV fl (K + 1) f2 0 = fl 0 from if_neg (by omega)]; exact h3
  · by_cases hkK : k = K
    · subst hkK
      rw [show seqV fl (k + 1) f2 k = fl k from if_neg (by omega), show seqU so (k + 1) so2 (k + 1) = so2 from if_pos rfl, show seqU W (k + 1) w2 (k + 1) = w2 from if_pos rfl, show seqV fl (k + 1) f2 (k + 1) = f2 from if_pos rfl, show seqU so (k + 1) so2 k = so k from if_neg (by omega), show seqU W (k + 1) w2 k = W k from if_neg (by omega)]
      exact ⟨hf, w0, hw, he⟩
    · rw [show seqV fl (K + 1) f2 k = fl k from if_neg (by omega), show seqU so (K + 1) so2 (k + 1) = so (k + 1) from if_neg (by omega), show seqU W (K + 1) w2 (k + 1) = W (k + 1) from if_neg (by omega), show seqV fl (K + 1) f2 (k + 1) = fl (k + 1) from if_neg (by omega), show seqU so (K + 1) so2 k = so k from if_neg (by omega), show seqU W (K + 1) w2 k = W k from if_neg (by omega)]
      exact h4 k (by omega)
set_option maxRecDepth 20000 in
theorem bX4_findBest_0 {X : pz_C} (hX : pz_X X cX4_findBest 7 RX4) : ∀ lv st g c s, (zo_al 1 0 (zo_il 1 3 (pz_Z X 7))) 0 lv st g c s → pz_Z X 7 0 lv st g c s := (zs_aload_n hX dX4_findBest_0 rfl (zs_iload_n hX dX4_findBest_1 rfl (fun _ _ _ _ _ h => h)))
set_option maxRecDepth 20000 in
theorem bX4_findBest_2 {X : pz_C} {G : pz_Gx} {rm : Room} (hX : pz_X X cX4_findBest 7 RX4) (hrm : pz_rm X = rm) (hGX : pz_GX X G) (hOk : pz_OK G) (gh : gt_X4_workOutRuns) (hr_X4_workOutRuns : rm_X4_workOutRuns.frames + 1 ≤ rm.frames ∧ 8 + (3 + 11) + rm_X4_workOutRuns.locals ≤ rm.locals) : ∀ lv st g c s, (zo_cV rm 6 1 3 rm_X4_workOutRuns.cells rm_X4_workOutRuns.slots (pr_X4_workOutRuns gh) (po_X4_workOutRuns gh) (zo_kv (zo_al 1 0 (zo_get 6 3 (zo_ic 2 (2147483647) (pz_Z X 7)))))) 2 lv st g c s → pz_Z X 7 2 lv st g c s := by
  subst hrm
  exact (zs_csV hX hGX (C := RX4) (T := TX4) (N := 5) rfl (ct_X4_workOutRuns hOk gh) mw_f9590921 mw_99f301bd mw_81fa01b7 mw_5ae0c28b mw_2f4889b7 (by decide +kernel) hr_X4_workOutRuns dX4_findBest_2 (zs_kv (zs_aload_n hX dX4_findBest_5 rfl (zs_get hX (C := RX4) (T := TX4) (N := 5) rfl in_X4 (by decide) mw_d8a77461 dX4_findBest_6 (zs_ldc hX dX4_findBest_9 mw_9b89bef2 (fun _ _ _ _ _ h => h))))))
set_option maxRecDepth 20000 in
theorem bX4_findBest_11 {X : pz_C} {G : pz_Gx} {rm : Room} (hX : pz_X X cX4_findBest 7 RX4) (hrm : pz_rm X = rm) (hGX : pz_GX X G) (hOk : pz_OK G) (gh : gt_J7_fill_53178) (hr_J7_fill_53178 : rm_J7_fill_53178.frames + 1 ≤ rm.frames ∧ 8 + (4 + 11) + rm_J7_fill_53178.locals ≤ rm.locals) : ∀ lv st g c s, (zo_cs rm 2 3 rm_J7_fill_53178.cells rm_J7_fill_53178.slots (pr_J7_fill_53178 gh) (po_J7_fill_53178 gh) (zo_kv (zo_al 1 0 (zo_get 6 2 (zo_ic 1 (0) (zo_aald 6 (zo_ic 2 (2147483647) (pz_Z X 7)))))))) 11 lv st g c s → pz_Z X 7 11 lv st g c s := by
  subst hrm
  exact (zs_csS hX hGX (ct_J7_fill_53178 hOk gh) mw_e28a97c6 mw_f64f8428 mw_76fc92b1 mw_9f3bf93d (by decide +kernel) hr_J7_fill_53178 dX4_findBest_11 (zs_kv (zs_aload_n hX dX4_findBest_14 rfl (zs_get hX (C := RX4) (T := TX4) (N := 5) rfl in_X4 (by decide) mw_e3f537a3 dX4_findBest_15 (zs_iconst hX dX4_findBest_18 (by decide) (zs_aald hX (ty := (.array .int)) (fun _ => rfl) rfl dX4_findBest_19 (zs_ldc hX dX4_findBest_20 mw_9b89bef2 (fun _ _ _ _ _ h => h))))))))
set_option maxRecDepth 20000 in
theorem bX4_findBest_22 {X : pz_C} {G : pz_Gx} {rm : Room} (hX : pz_X X cX4_findBest 7 RX4) (hrm : pz_rm X = rm) (hGX : pz_GX X G) (hOk : pz_OK G) (gh : gt_J7_fill_53178) (hr_J7_fill_53178 : rm_J7_fill_53178.frames + 1 ≤ rm.frames ∧ 8 + (4 + 11) + rm_J7_fill_53178.locals ≤ rm.locals) : ∀ lv st g c s, (zo_cs rm 2 3 rm_J7_fill_53178.cells rm_J7_fill_53178.slots (pr_J7_fill_53178 gh) (po_J7_fill_53178 gh) (zo_kv (zo_al 1 0 (zo_get 6 3 (zo_il 1 1 (zo_il 1 3 (zo_iast (zo_al 1 0 (zo_get 6 2 (zo_ic 1 (0) (zo_aald 6 (zo_il 1 1 (zo_il 1 3 (zo_iast (zo_ic 1 (-1) (zo_is 2 4 (zo_ic 1 (1) (zo_is 2 5 (zo_ic 1 (1) (zo_is 2 6 (pz_Z X 7))))))))))))))))))))) 22 lv st g c s → pz_Z X 7 22 lv st g c s := by
  subst hrm
  exact (zs_csS hX hGX (ct_J7_fill_53178 hOk gh) mw_e28a97c6 mw_f64f8428 mw_76fc92b1 mw_9f3bf93d (by decide +kernel) hr_J7_fill_53178 dX4_findBest_22 (zs_kv (zs_aload_n hX dX4_findBest_25 rfl (zs_get hX (C := RX4) (T := TX4) (N := 5) rfl in_X4 (by decide) mw_d8a77461 dX4_findBest_26 (zs_iload_n hX dX4_findBest_29 rfl (zs_iload_n hX dX4_findBest_30 rfl (zs_iast hX dX4_findBest_31 (zs_aload_n hX dX4_findBest_32 rfl (zs_get hX (C := RX4) (T := TX4) (N := 5) rfl in_X4 (by decide) mw_e3f537a3 dX4_findBest_33 (zs_iconst hX dX4_findBest_36 (by decide) (zs_aald hX (ty := (.array .int)) (fun _ => rfl) rfl dX4_findBest_37 (zs_iload_n hX dX4_findBest_38 rfl (zs_iload_n hX dX4_findBest_39 rfl (zs_iast hX dX4_findBest_40 (zs_iconst hX dX4_findBest_41 (by decide) (zs_istore hX dX4_findBest_42 (by decide) (zs_iconst hX dX4_findBest_44 (by decide) (zs_istore hX dX4_findBest_45 (by decide) (zs_iconst hX dX4_findBest_47 (by decide) (zs_istore hX dX4_findBest_48 (by decide) (fun _ _ _ _ _ h => h)))))))))))))))))))))
set_option maxRecDepth 20000 in
theorem bX4_findBest_50 {X : pz_C} (hX : pz_X X cX4_findBest 7 RX4) : ∀ lv st g c s, (zo_il 2 6 (zo_ic 2 (6) (zo_ic_gt 95 (pz_Z X 7)))) 50 lv st g c s → pz_Z X 7 50 lv st g c s := (zs_iload hX dX4_findBest_50 (zs_bipush hX dX4_findBest_52 (by decide) (zs_ic_gt hX dX4_findBest_54 (by decide) (fun _ _ _ _ _ _ h => h))))
set_option maxRecDepth 20000 in
theorem bX4_findBest_57 {X : pz_C} (hX : pz_X X cX4_findBest 7 RX4) : ∀ lv st g c s, (zo_il 2 5 (zo_if_eq 95 (pz_Z X 7))) 57 lv st g c s → pz_Z X 7 57 lv st g c s := (zs_iload hX dX4_findBest_57 (zs_if_eq hX dX4_findBest_59 (by decide) (fun _ _ _ _ _ _ h => h)))
set_option maxRecDepth 20000 in
theorem bX4_findBest_62 {X : pz_C} (hX : pz_X X cX4_findBest 7 RX4) : ∀ lv st g c s, (zo_al 1 0 (zo_il 2 6 (zo_il 1 2 (pz_Z X 7)))) 62 lv st g c s → pz_Z X 7 62 lv st g c s := (zs_aload_n hX dX4_findBest_62 rfl (zs_iload hX dX4_findBest_63 (zs_iload_n hX dX4_findBest_65 rfl (fun _ _ _ _ _ h => h))))
set_option maxRecDepth 20000 in
theorem bX4_findBest_66 {X : pz_C} {G : pz_Gx} {rm : Room} (hX : pz_X X cX4_findBest 7 RX4) (hrm : pz_rm X = rm) (hGX : pz_GX X G) (hOk : pz_OK G) (gh : gt_X4_spread) (hr_X4_spread : rm_X4_spread.frames + 1 ≤ rm.frames ∧ 8 + (7 + 11) + rm_X4_spread.locals ≤ rm.locals) : ∀ lv st g c s, (zo_cV rm 6 2 3 rm_X4_spread.cells rm_X4_spread.slots (pr_X4_spread gh) (po_X4_spread gh) (zo_kz (zo_is 2 5 (zo_al 1 0 (zo_get 6 2 (zo_il 2 6 (zo_aald 6 (zo_il 1 2 (zo_iald (zo_ic 2 (2147483647) (zo_ic_eq 89 (pz_Z X 7)))))))))))) 66 lv st g c s → pz_Z X 7 66 lv st g c s := by
  subst hrm
  exact (zs_csV hX hGX (C := RX4) (T := TX4) (N := 5) rfl (ct_X4_spread hOk gh) mw_4d6baa92 mw_83833635 mw_71ef1389 mw_5ae0c28b mw_363fdb41 (by decide +kernel) hr_X4_spread dX4_findBest_66 (zs_kz (zs_istore hX dX4_findBest_69 (by decide) (zs_aload_n hX dX4_findBest_71 rfl (zs_get hX (C := RX4) (T := TX4) (N := 5) rfl in_X4 (by decide) mw_e3f537a3 dX4_findBest_72 (zs_iload hX dX4_findBest_75 (zs_aald hX (ty := (.array .int)) (fun _ => rfl) rfl dX4_findBest_77 (zs_iload_n hX dX4_findBest_78 rfl (zs_iald hX dX4_findBest_79 (zs_ldc hX dX4_findBest_80 mw_9b89bef2 (zs_ic_eq hX dX4_findBest_82 (by decide) (fun _ _ _ _ _ _ h => h))))))))))))
set_option maxRecDepth 20000 in
theorem bX4_findBest_85 {X : pz_C} (hX : pz_X X cX4_findBest 7 RX4) : ∀ lv st g c s, (zo_il 2 6 (zo_is 2 4 (pz_Z X 7))) 85 lv st g c s → pz_Z X 7 85 lv st g c s := (zs_iload hX dX4_findBest_85 (zs_istore hX dX4_findBest_87 (by decide) (fun _ _ _ _ _ h => h)))
set_option maxRecDepth 20000 in
theorem bX4_findBest_89 {X : pz_C} (hX : pz_X X cX4_findBest 7 RX4) : ∀ lv st g c s, (zo_inc 6 (1) (zo_goto 50 (pz_Z X 7))) 89 lv st g c s → pz_Z X 7 89 lv st g c s := (zs_iinc hX dX4_findBest_89 (by decide) (by decide) (zs_goto hX dX4_findBest_92 (by decide) (fun _ _ _ _ _ _ h => h)))
set_option maxRecDepth 20000 in
theorem bX4_findBest_95 {X : pz_C} {rm : Room} {E : Option pz_V → pz_H → Prop} (hX : pz_X X cX4_findBest 7 RX4) (hR : pz_Rt X cX4_findBest 7 (some .int) rm E) : ∀ lv st g c s, (zo_il 2 4 (zo_ri rm E)) 95 lv st g c s → pz_Z X 7 95 lv st g c s := (zs_iload hX dX4_findBest_95 (zs_ri hR dX4_findBest_97))
def rm_X4_findBest : Room := { frames := 5, cells := 0, slots := 0, locals := 117 }
abbrev gt_X4_findBest : Type := (Nat × Nat × Nat × Int32) × (Nat × Nat × Nat × Nat) × Int32 × (Nat → Nat) × (Nat × (Nat → lr_T)) × ((Nat → Nat) × (Nat → List (Int32 × Int32)) × (Nat → Int32) × (Nat → Int32))
def pr_X4_findBest : gt_X4_findBest → List pz_V → pz_H → Prop := fun ((nt, from', to, t), (la, pa, na, sa), fd0, Wa, (nl, L), (fp, Z, N, C)) av g => av = [.inr (.inr (some nt)), .inl (nI from'), .inl (nI to), .inl t] ∧ from' < 100 ∧ to < 100 ∧ ntS g nt la pa na sa fd0 Wa ∧ nlS g la nl L ∧ (∀ i, i < nl → ∃ rn A B, lrT g (L i) rn A B) ∧ plS g pa fp Z N C ∧ (∃ W : Nat → Nat → Int32, ∀ i, i < 7 → g (Wa i) = some ([11, i], ar_i 100 (W i))) ∧ ∃ so, g sa = some ([12], ar_i 100 so)
def po_X4_findBest : gt_X4_findBest → List pz_V → pz_H → Option pz_V → pz_H → Prop := fun ((nt, from', to, t), (la, pa, na, sa), _, Wa, (nl, L), (_, Z, _, C)) _ g v g' => hg fbSc g g' ∧ ntS g' nt la pa na sa (t / 86400 - 3) Wa ∧ (∀ i, i < nl → lrW g' (L i) (t / 86400 - 3) Z) ∧ ∃ K so W fl, K ≤ 6 ∧ fb_R L nl (t / 86400 - 3) Z C from' to t K so W fl ∧ (K = 6 ∨ fl K = 0) ∧ v = some (.inl (fb_f (fun k => W k to) K)) ∧ (∃ W' : Nat → Nat → Int32, (∀ i, i ≤ K → W' i = W i) ∧ ∀ i, i < 7 → g' (Wa i) = some ([11, i], ar_i 100 (W' i))) ∧ g' sa = some ([12], ar_i 100 (so K))
set_option maxRecDepth 20000 in
set_option maxHeartbeats 4000000 in
theorem ct_X4_findBest {G : pz_Gx} (hOk : pz_OK G) (gh : gt_X4_findBest) : pz_M G yX4_findBest cX4_findBest 7 (some .int) rm_X4_findBest (pr_X4_findBest gh) (po_X4_findBest gh) := by
  obtain ⟨⟨nt, from', to, t⟩, ⟨la, pa, na, sa⟩, fd0, Wa, ⟨nl, L⟩, fp, Z, N, C⟩ := gh
  refine pz_ofZ (by decide) hOk.1 (Or.inr (Or.inl rfl)) ?_ ?_
  · rintro av g ⟨rfl, -⟩
    exact Nat.le_of_ble_eq_true rfl
  · rintro X hX hGX hrm - av g ⟨rfl, hfr, hto, hnt, hnl, hT, hpS, ⟨W00, hW00⟩, so00, hso00⟩ hR
    have loop : ∀ (m K : Nat) (so W : Nat → Nat → Int32) (fl : Nat → Int32) (W' : Nat → Nat → Int32) (gk : pz_H), K + m = 6 → hg fbSc g gk → ntS gk nt la pa na sa (t / 86400 - 3) Wa → (∀ i, i < nl → lrW gk (L i) (t / 86400 - 3) Z) → fb_R L nl (t / 86400 - 3) Z C from' to t K so W fl → (∀ i, i ≤ K → W' i = W i) → (∀ i, i < 7 → gk (Wa i) = some ([11, i], ar_i 100 (W' i))) → gk sa = some ([12], ar_i 100 (so K)) → pz_Z X 7 50 [(6, .inl (nI (K + 1))), (5, .inl (fl K)), (4, .inl (fb_f (fun k => W k to) K)), (0, .inr (.inr (some nt))), (1, .inl (nI from')), (2, .inl (nI to)), (3, .inl t)] [] gk 0 0 := by
      intro m
      induction m with
      | zero =>
        intro K so W fl W' gk hK hS hnt2 hW hR2 hWW hWa hs
        obtain rfl : K = 6 := by omega
        refine bX4_findBest_50 hX _ _ _ _ _ ⟨fun _ => ?_, fun q => absurd (show (6 : Int32) < nI (6 + 1) by decide) q⟩
        exact bX4_findBest_95 hX hR _ _ _ _ _ ⟨Nat.le_refl _, Nat.le_refl _, hS, hnt2, hW, 6, so, W, fl, Nat.le_refl _, hR2, Or.inl rfl, rfl, ⟨W', hWW, hWa⟩, hs⟩
      | succ m ih =>
        intro K so W fl W' gk hK hS hnt2 hW hR2 hWW hWa hs
        refine bX4_findBest_50 hX _ _ _ _ _ ⟨fun q => absurd ((ni_lt (a := 6) (by omega) (by omega)).mp q) (by omega), fun _ => ?_⟩
        refine bX4_findBest_57 hX _ _ _ _ _ ⟨fun q => ?_, fun q => ?_⟩
        · exact bX4_findBest_95 hX hR _ _ _ _ _ ⟨Nat.le_refl _, Nat.le_refl _, hS, hnt2, hW, K, so, W, fl, by omega, hR2, Or.inr q, rfl, ⟨W', hWW, hWa⟩, hs⟩
        refine bX4_findBest_62 hX _ _ _ _ _ ?_
        have hwK : gk (Wa K) = some ([11, K], ar_i 100 (W K)) := by rw [hWa K (by omega), hWW K (Nat.le_refl _)]
        refine bX4_findBest_66 hX hrm hGX hOk ((nt, K, to), (la, pa, na, sa), t / 86400 - 3, Wa, (W K, so K), (nl, L), (fp, Z, N, C)) (by decide) _ _ _ _ _ ⟨Nat.le_of_ble_eq_true rfl, ⟨nt, [.inl (nI (K + 1)), .inl (nI to)], [1], _, rfl, hnt2.1⟩, Nat.le_of_ble_eq_true rfl, Nat.le_of_ble_eq_true rfl, Nat.le_of_ble_eq_true rfl, ⟨rfl, by omega, hto, hnt2, nlS_mono hS (by simp [fbSc, lnSc]) hnl, hW, plS_mono hS (by simp [fbSc, lnSc]) hpS, hwK, ⟨_, hWa (K + 1) (by omega)⟩, hs⟩, ?_⟩
        rintro v g2 ⟨h2, w0, so2, w2, f2, hw0, he, rfl, hs2, hw2⟩ x hx -
        cases hx
        have hnt3 := ntS_mono h2 (by simp) hnt2
        obtain ⟨hn3, ona, hna, hona⟩ := id hnt3
        have hS2 : hg fbSc g g2 := hg_tr hS (hg_mono h2 (fun b hb => hb.elim (fun e => Or.inr (Or.inr (Or.inl e))) (fun e => Or.inr (Or.inr (Or.inr ⟨_, e⟩)))))
        have hR3 := fb_ext hR2 q hw0 he
        have hfe : ∀ lv : pz_L, pz_all lv [(6, .inl (nI (K + 1))), (5, .inl f2), (4, .inl (fb_f (fun k => seqU W (K + 1) w2 k to) (K + 1))), (0, .inr (.inr (some nt))), (1, .inl (nI from')), (2, .inl (nI to)), (3, .inl t)] → pz_Z X 7 89 lv [] g2 0 0 := by
          intro lv hlv
          refine pz_lsub hlv ?_
          refine bX4_findBest_89 hX _ _ _ _ _ ?_
          refine pz_lsub (lv' := [(6, .inl (nI (K + 1 + 1))), (5, .inl (seqV fl (K + 1) f2 (K + 1))), (4, .inl (fb_f (fun k => seqU W (K + 1) w2 k to) (K + 1))), (0, .inr (.inr (some nt))), (1, .inl (nI from')), (2, .inl (nI to)), (3, .inl t)]) ⟨ni_inc, by rw [show seqV fl (K + 1) f2 (K + 1) = f2 from if_pos rfl]; rfl, rfl, rfl, rfl, rfl, rfl, trivial⟩ ?_
          refine ih (K + 1) (seqU so (K + 1) so2) (seqU W (K + 1) w2) (seqV fl (K + 1) f2) (seqU W' (K + 1) w2) g2 (by omega) hS2 hnt3 (fun i hi => lrW_mono h2 (L i) (by simp) (hW i hi)) hR3 (fun i hi => ?_) (fun i hi => ?_) ?_
          · unfold seqU
            by_cases e : i = K + 1
            · rw [if_pos e, if_pos e]
            · rw [if_neg e, if_neg e]; exact hWW i (by omega)
          · unfold seqU
            by_cases e : i = K + 1
            · rw [if_pos e, e]; exact hw2
            · rw [if_neg e]; exact h2 _ _ _ (hWa i hi) (by simp [e])
          · rw [show seqU so (K + 1) so2 (K + 1) = so2 from if_pos rfl]; exact hs2
        have hold : fb_f (fun k => seqU W (K + 1) w2 k to) K = fb_f (fun k => W k to) K := fb_congr K (fun k hk => by
          show seqU W (K + 1) w2 k to = W k to
          rw [show seqU W (K + 1) w2 k = W k from if_neg (by omega)])
        have hnew : fb_f (fun k => seqU W (K + 1) w2 k to) (K + 1) = if w2 to = 2147483647 then fb_f (fun k => W k to) K else nI (K + 1) := by
          show (if seqU W (K + 1) w2 (K + 1) to = 2147483647 then fb_f (fun k => seqU W (K + 1) w2 k to) K else nI (K + 1)) = _
          rw [hold, show seqU W (K + 1) w2 (K + 1) = w2 from if_pos rfl]
        refine ⟨_, _, _, hn3, rfl, _, _, _, hna, ni_in (by omega) (by omega), ?_⟩
        rw [ni_cl (by omega), hona (K + 1) (by omega)]
        refine ⟨_, _, _, hw2, ni_in hto (by omega), ?_⟩
        rw [ni_cl (by omega)]
        refine ⟨fun q2 => ?_, fun q2 => ?_⟩
        · exact hfe _ ⟨rfl, rfl, by rw [hnew, if_pos q2]; rfl, rfl, rfl, rfl, rfl, trivial⟩
        · refine bX4_findBest_85 hX _ _ _ _ _ ?_
          exact hfe _ ⟨rfl, rfl, by rw [hnew, if_neg q2]; rfl, rfl, rfl, rfl, rfl, trivial⟩
    refine bX4_findBest_0 hX _ _ _ _ _ ?_
    refine bX4_findBest_2 hX hrm hGX hOk ((nt, t), (la, pa, na, sa), fd0, Wa, (nl, L), (fp, Z, N, C)) (by decide) _ _ _ _ _ ⟨Nat.le_of_ble_eq_true rfl, ⟨nt, [.inl t], [1], _, rfl, hnt.1⟩, Nat.le_of_ble_eq_true rfl, Nat.le_of_ble_eq_true rfl, Nat.le_of_ble_eq_true rfl, ⟨rfl, hnt, hnl, hT, hpS⟩, ?_⟩
    rintro v g1 ⟨rfl, h1, hnt1, hW1⟩ _
    have hS1 : hg fbSc g g1 := hg_mono h1 (fun b hb => hb.elim Or.inl (fun e => Or.inr (Or.inl e)))
    have hso1 := h1 _ _ _ hso00 (by simp [lnSc])
    have hWa1 : ∀ i, i < 7 → g1 (Wa i) = some ([11, i], ar_i 100 (W00 i)) := fun i hi => h1 _ _ _ (hW00 i hi) (by simp [lnSc])
    obtain ⟨hn1, ona, hna, hona⟩ := id hnt1
    refine ⟨_, _, _, hn1, rfl, ?_⟩
    refine bX4_findBest_11 hX hrm hGX hOk (sa, 2147483647, [12], 100, so00) (by decide) _ _ _ _ _ ⟨Nat.le_of_ble_eq_true rfl, Nat.le_of_ble_eq_true rfl, Nat.le_of_ble_eq_true rfl, Nat.le_of_ble_eq_true rfl, ⟨rfl, hso1, by omega⟩, ?_⟩
    rintro v g2 ⟨rfl, s1, rfl, hs1⟩ _
    refine ⟨_, _, _, up_ne hn1 hso1 (by simp), rfl, _, _, _, up_ne hna hso1 (by simp), ni_in (j := 0) (by omega) (by omega), ?_⟩
    rw [show (0 : Int32).toNatClampNeg = 0 from rfl, hona 0 (by omega)]
    refine bX4_findBest_22 hX hrm hGX hOk (Wa 0, 2147483647, [11, 0], 100, W00 0) (by decide) _ _ _ _ _ ⟨Nat.le_of_ble_eq_true rfl, Nat.le_of_ble_eq_true rfl, Nat.le_of_ble_eq_true rfl, Nat.le_of_ble_eq_true rfl, ⟨rfl, up_ne (hWa1 0 (by omega)) hso1 (by simp), by omega⟩, ?_⟩
    rintro v g3 ⟨rfl, w1, rfl, hw1⟩ _
    have e1 := up_ne (v := some ([12], .inl (0, 100, .inl s1))) (hWa1 0 (by omega)) hso1 (by simp)
    have e2 : va_up (va_up g1 sa (some ([12], .inl (0, 100, .inl s1)))) (Wa 0) (some ([11, 0], .inl (0, 100, .inl w1))) sa = some ([12], .inl (0, 100, .inl s1)) := up_ne up_at e1 (by simp)
    refine ⟨_, _, _, up_ne (up_ne hn1 hso1 (by simp)) e1 (by simp), rfl, _, _, _, e2, ni_in hfr (by omega), _, _, _, up_ne (up_ne (up_ne hn1 hso1 (by simp)) e1 (by simp)) e2 (by simp), rfl, _, _, _, up_ne (up_ne (up_ne hna hso1 (by simp)) e1 (by simp)) e2 (by simp), ni_in (j := 0) (by omega) (by omega), ?_⟩
    rw [show (0 : Int32).toNatClampNeg = 0 from rfl, hona 0 (by omega), ni_cl (j := from') (by omega)]
    have e3 : va_up (va_up (va_up g1 sa (some ([12], .inl (0, 100, .inl s1)))) (Wa 0) (some ([11, 0], .inl (0, 100, .inl w1)))) sa (some ([12], .inl (0, 100, .inl (upd s1 from' t)))) (Wa 0) = some ([11, 0], .inl (0, 100, .inl w1)) := up_ne up_at e2 (by simp)
    refine ⟨_, _, _, e3, ni_in hfr (by omega), ?_⟩
    rw [ni_cl (j := from') (by omega)]
    have hgg : hg (fun b => b = [12] ∨ b = [11, 0]) g1 (va_up (va_up (va_up (va_up g1 sa (some ([12], .inl (0, 100, .inl s1)))) (Wa 0) (some ([11, 0], .inl (0, 100, .inl w1)))) sa (some ([12], .inl (0, 100, .inl (upd s1 from' t))))) (Wa 0) (some ([11, 0], .inl (0, 100, .inl (upd w1 from' t))))) := hg_up (hg_up (hg_up (hg_up hg_rf hso1 (Or.inl rfl)) e1 (Or.inr rfl)) e2 (Or.inl rfl)) e3 (Or.inr rfl)
    refine pz_lsub (lv' := [(6, .inl (nI (0 + 1))), (5, .inl 1), (4, .inl (-1)), (0, .inr (.inr (some nt))), (1, .inl (nI from')), (2, .inl (nI to)), (3, .inl t)]) ⟨rfl, rfl, rfl, rfl, rfl, rfl, rfl, trivial⟩ ?_
    refine loop 6 0 (fun _ => upd s1 from' t) (fun _ => upd w1 from' t) (fun _ => 1) (seqU W00 0 (upd w1 from' t)) _ (by omega) (hg_tr hS1 (hg_mono hgg (fun b hb => hb.elim (fun e => Or.inr (Or.inr (Or.inl e))) (fun e => Or.inr (Or.inr (Or.inr ⟨_, e⟩)))))) (ntS_mono hgg (by simp) hnt1) (fun i hi => lrW_mono hgg (L i) (by simp) (hW1 i hi)) ⟨fun p hp => ?_, fun p hp => ?_, rfl, fun k hk => absurd hk (Nat.not_lt_zero k)⟩ (fun i hi => ?_) (fun i hi => ?_) ?_
    · by_cases e : p = from'
      · subst e; rw [if_pos rfl]; exact pk_us
      · rw [if_neg e]
        show upd s1 from' t p = _
        rw [pk_un e]; exact hs1 p hp
    · by_cases e : p = from'
      · subst e; rw [if_pos rfl]; exact pk_us
      · rw [if_neg e]
        show upd w1 from' t p = _
        rw [pk_un e]; exact hw1 p hp
    · obtain rfl : i = 0 := by omega
      exact if_pos rfl
    · unfold seqU
      by_cases e : i = 0
      · subst e; rw [if_pos rfl]; exact up_at
      · rw [if_neg e]; exact hgg _ _ _ (hWa1 i hi) (by simp [e])
    · exact up_ne up_at e3 (by simp)
