/-! LineTimes$Net.gather -/
theorem gt_j_congr {w : Nat} {f1 A A' : Nat → Int32} {to : Nat} {b : Int32} : ∀ (m j : Nat) (s : Nat × (Nat → Int32)), (∀ k, k < j + m → A k = A' k) → gt_j w f1 A to b j m s = gt_j w f1 A' to b j m s
  | 0, _, _, _ => rfl
  | m + 1, j, s, h => by
    show gt_j w f1 A to b (j + 1) m _ = gt_j w f1 A' to b (j + 1) m _
    rw [h j (by omega)]
    exact gt_j_congr m (j + 1) _ (fun k hk => h k (by omega))
theorem gt_i_congr {w : Nat} {f1 A B A' B' : Nat → Int32} {n from' to : Nat} {t : Int32} : ∀ (m i : Nat) (s : Nat × (Nat → Int32)), i + m = n → (∀ k, k < n → A k = A' k ∧ B k = B' k) → gt_i w f1 A B n from' to t i m s = gt_i w f1 A' B' n from' to t i m s
  | 0, _, _, _, _ => rfl
  | m + 1, i, s, hn, h => by
    show gt_i w f1 A B n from' to t (i + 1) m _ = gt_i w f1 A' B' n from' to t (i + 1) m _
    rw [(h i (by omega)).2, gt_j_congr (n - (i + 1)) (i + 1) s (fun k hk => (h k (by omega)).1)]
    exact gt_i_congr m (i + 1) _ (by omega) h
def ga_r (x : lr_T) (fd : Int32) (Z : Nat → List (Int32 × Int32)) (w from' to : Nat) (t : Int32) (r : Nat) (s : Nat × (Nat → Int32)) : Nat × (Nat → Int32) := if lr_run x fd r = 1 then gt_i w (lr_f1 x) (lr_A x fd Z r) (lr_B x fd Z r) (lr_n x) from' to t 0 (lr_n x) s else s
def ga_l (x : lr_T) (fd : Int32) (Z : Nat → List (Int32 × Int32)) (w from' to : Nat) (t : Int32) (s : Nat × (Nat → Int32)) : Nat → Nat × (Nat → Int32)
  | 0 => s
  | r + 1 => ga_r x fd Z w from' to t r (ga_l x fd Z w from' to t s r)
def ga_n (L : Nat → lr_T) (fd : Int32) (Z : Nat → List (Int32 × Int32)) (w from' to : Nat) (t : Int32) (s : Nat × (Nat → Int32)) : Nat → Nat × (Nat → Int32)
  | 0 => s
  | i + 1 => ga_l (L i) fd Z w from' to t (ga_n L fd Z w from' to t s i) 13
set_option maxRecDepth 20000 in
theorem bX4_gather_0 {X : pz_C} (hX : pz_X X cX4_gather 8 RX4) : ∀ lv st g c s, (zo_al 1 0 (zo_il 2 4 (pz_Z X 8))) 0 lv st g c s → pz_Z X 8 0 lv st g c s := (zs_aload_n hX dX4_gather_0 rfl (zs_iload hX dX4_gather_1 (fun _ _ _ _ _ h => h)))
set_option maxRecDepth 20000 in
theorem bX4_gather_3 {X : pz_C} {G : pz_Gx} {rm : Room} (hX : pz_X X cX4_gather 8 RX4) (hrm : pz_rm X = rm) (hGX : pz_GX X G) (hOk : pz_OK G) (gh : gt_X4_workOutRuns) (hr_X4_workOutRuns : rm_X4_workOutRuns.frames + 1 ≤ rm.frames ∧ 8 + (3 + 11) + rm_X4_workOutRuns.locals ≤ rm.locals) : ∀ lv st g c s, (zo_cV rm 6 1 3 rm_X4_workOutRuns.cells rm_X4_workOutRuns.slots (pr_X4_workOutRuns gh) (po_X4_workOutRuns gh) (zo_kv (zo_ic 1 (0) (zo_is 2 5 (pz_Z X 8))))) 3 lv st g c s → pz_Z X 8 3 lv st g c s := by
  subst hrm
  exact (zs_csV hX hGX (C := RX4) (T := TX4) (N := 5) rfl (ct_X4_workOutRuns hOk gh) mw_f9590921 mw_99f301bd mw_81fa01b7 mw_5ae0c28b mw_2f4889b7 (by decide +kernel) hr_X4_workOutRuns dX4_gather_3 (zs_kv (zs_iconst hX dX4_gather_6 (by decide) (zs_istore hX dX4_gather_7 (by decide) (fun _ _ _ _ _ h => h)))))
set_option maxRecDepth 20000 in
theorem bX4_gather_9 {X : pz_C} (hX : pz_X X cX4_gather 8 RX4) : ∀ lv st g c s, (zo_il 2 5 (zo_al 1 0 (zo_get 6 0 (pz_Z X 8)))) 9 lv st g c s → pz_Z X 8 9 lv st g c s := (zs_iload hX dX4_gather_9 (zs_aload_n hX dX4_gather_11 rfl (zs_get hX (C := RX4) (T := TX4) (N := 5) rfl in_X4 (by decide) mw_6a265c56 dX4_gather_12 (fun _ _ _ _ _ h => h))))
set_option maxRecDepth 20000 in
theorem bX4_gather_15 {X : pz_C} {G : pz_Gx} {rm : Room} (hX : pz_X X cX4_gather 8 RX4) (hrm : pz_rm X = rm) (hGX : pz_GX X G) (hOk : pz_OK G) (gh : gt_Jx4a65c_size_8abf5) (hr_Jx4a65c_size_8abf5 : rm_Jx4a65c_size_8abf5.frames + 1 ≤ rm.frames ∧ 8 + (1 + 11) + rm_Jx4a65c_size_8abf5.locals ≤ rm.locals) : ∀ lv st g c s, (zo_cV rm 1 0 5 rm_Jx4a65c_size_8abf5.cells rm_Jx4a65c_size_8abf5.slots (pr_Jx4a65c_size_8abf5 gh) (po_Jx4a65c_size_8abf5 gh) (zo_ki (zo_ic_ge 85 (pz_Z X 8)))) 15 lv st g c s → pz_Z X 8 15 lv st g c s := by
  subst hrm
  exact (zs_csF hX hGX (C := RJx4a65c) (T := TJx4a65c) (N := 3) rfl (ct_Jx4a65c_size_8abf5 hOk gh) (hOk.2.1) mw_d5bce3b2 mw_e0c83bb7 mw_8c7bf081 mw_dd3bf01c mw_d1eac4b0 (by decide +kernel) hr_Jx4a65c_size_8abf5 dX4_gather_15 (zs_ki (zs_ic_ge hX dX4_gather_20 (by decide) (fun _ _ _ _ _ _ h => h))))
set_option maxRecDepth 20000 in
theorem bX4_gather_23 {X : pz_C} (hX : pz_X X cX4_gather 8 RX4) : ∀ lv st g c s, (zo_al 1 0 (zo_get 6 0 (zo_il 2 5 (pz_Z X 8)))) 23 lv st g c s → pz_Z X 8 23 lv st g c s := (zs_aload_n hX dX4_gather_23 rfl (zs_get hX (C := RX4) (T := TX4) (N := 5) rfl in_X4 (by decide) mw_6a265c56 dX4_gather_24 (zs_iload hX dX4_gather_27 (fun _ _ _ _ _ h => h))))
set_option maxRecDepth 20000 in
theorem bX4_gather_29 {X : pz_C} {G : pz_Gx} {rm : Room} (hX : pz_X X cX4_gather 8 RX4) (hrm : pz_rm X = rm) (hGX : pz_GX X G) (hOk : pz_OK G) (gh : gt_Jx4a65c_get_915e3) (hr_Jx4a65c_get_915e3 : rm_Jx4a65c_get_915e3.frames + 1 ≤ rm.frames ∧ 8 + (2 + 11) + rm_Jx4a65c_get_915e3.locals ≤ rm.locals) : ∀ lv st g c s, (zo_cV rm 1 1 5 rm_Jx4a65c_get_915e3.cells rm_Jx4a65c_get_915e3.slots (pr_Jx4a65c_get_915e3 gh) (po_Jx4a65c_get_915e3 gh) (zo_kr (zo_cast1 5 (zo_as 2 6 (zo_ic 1 (0) (zo_is 2 7 (pz_Z X 8))))))) 29 lv st g c s → pz_Z X 8 29 lv st g c s := by
  subst hrm
  exact (zs_csF hX hGX (C := RJx4a65c) (T := TJx4a65c) (N := 3) rfl (ct_Jx4a65c_get_915e3 hOk gh) (hOk.2.2.1) mw_3d0b9f87 mw_50a82afc mw_e81a0f1b mw_dd3bf01c mw_817361af (by decide +kernel) hr_Jx4a65c_get_915e3 dX4_gather_29 (zs_kr (by first | exact Or.inl ⟨_, rfl⟩ | exact Or.inr ⟨_, rfl⟩) (zs_cast1 hX (C := RX3) (T := TX3) (N := 11) rfl mw_e6efc03c dX4_gather_34 (zs_astore hX dX4_gather_37 (by decide) (zs_iconst hX dX4_gather_39 (by decide) (zs_istore hX dX4_gather_40 (by decide) (fun _ _ _ _ _ h => h)))))))
set_option maxRecDepth 20000 in
theorem bX4_gather_42 {X : pz_C} (hX : pz_X X cX4_gather 8 RX4) : ∀ lv st g c s, (zo_il 2 7 (zo_ic 2 (13) (zo_ic_ge 79 (pz_Z X 8)))) 42 lv st g c s → pz_Z X 8 42 lv st g c s := (zs_iload hX dX4_gather_42 (zs_bipush hX dX4_gather_44 (by decide) (zs_ic_ge hX dX4_gather_46 (by decide) (fun _ _ _ _ _ _ h => h))))
set_option maxRecDepth 20000 in
theorem bX4_gather_49 {X : pz_C} (hX : pz_X X cX4_gather 8 RX4) : ∀ lv st g c s, (zo_al 2 6 (zo_get 5 7 (zo_il 2 7 (zo_zald (zo_if_eq 73 (pz_Z X 8)))))) 49 lv st g c s → pz_Z X 8 49 lv st g c s := (zs_aload hX dX4_gather_49 (zs_get hX (C := RX3) (T := TX3) (N := 11) rfl in_X3 (by decide) mw_324d2fc6 dX4_gather_51 (zs_iload hX dX4_gather_54 (zs_zald hX dX4_gather_56 (zs_if_eq hX dX4_gather_57 (by decide) (fun _ _ _ _ _ _ h => h))))))
set_option maxRecDepth 20000 in
theorem bX4_gather_60 {X : pz_C} (hX : pz_X X cX4_gather 8 RX4) : ∀ lv st g c s, (zo_al 1 0 (zo_al 1 1 (zo_al 2 6 (zo_il 2 7 (zo_il 1 2 (zo_il 1 3 (zo_il 2 4 (pz_Z X 8)))))))) 60 lv st g c s → pz_Z X 8 60 lv st g c s := (zs_aload_n hX dX4_gather_60 rfl (zs_aload_n hX dX4_gather_61 rfl (zs_aload hX dX4_gather_62 (zs_iload hX dX4_gather_64 (zs_iload_n hX dX4_gather_66 rfl (zs_iload_n hX dX4_gather_67 rfl (zs_iload hX dX4_gather_68 (fun _ _ _ _ _ h => h))))))))
set_option maxRecDepth 20000 in
theorem bX4_gather_70 {X : pz_C} {G : pz_Gx} {rm : Room} (hX : pz_X X cX4_gather 8 RX4) (hrm : pz_rm X = rm) (hGX : pz_GX X G) (hOk : pz_OK G) (gh : gt_X4_gatherRun) (hr_X4_gatherRun : rm_X4_gatherRun.frames + 1 ≤ rm.frames ∧ 8 + (10 + 11) + rm_X4_gatherRun.locals ≤ rm.locals) : ∀ lv st g c s, (zo_cV rm 6 6 3 rm_X4_gatherRun.cells rm_X4_gatherRun.slots (pr_X4_gatherRun gh) (po_X4_gatherRun gh) (zo_kv (pz_Z X 8))) 70 lv st g c s → pz_Z X 8 70 lv st g c s := by
  subst hrm
  exact (zs_csV hX hGX (C := RX4) (T := TX4) (N := 5) rfl (ct_X4_gatherRun hOk gh) mw_af428b5f mw_634683a1 mw_88968ee8 mw_5ae0c28b mw_46d929c5 (by decide +kernel) hr_X4_gatherRun dX4_gather_70 (zs_kv (fun _ _ _ _ _ h => h)))
set_option maxRecDepth 20000 in
theorem bX4_gather_73 {X : pz_C} (hX : pz_X X cX4_gather 8 RX4) : ∀ lv st g c s, (zo_inc 7 (1) (zo_goto 42 (pz_Z X 8))) 73 lv st g c s → pz_Z X 8 73 lv st g c s := (zs_iinc hX dX4_gather_73 (by decide) (by decide) (zs_goto hX dX4_gather_76 (by decide) (fun _ _ _ _ _ _ h => h)))
set_option maxRecDepth 20000 in
theorem bX4_gather_79 {X : pz_C} (hX : pz_X X cX4_gather 8 RX4) : ∀ lv st g c s, (zo_inc 5 (1) (zo_goto 9 (pz_Z X 8))) 79 lv st g c s → pz_Z X 8 79 lv st g c s := (zs_iinc hX dX4_gather_79 (by decide) (by decide) (zs_goto hX dX4_gather_82 (by decide) (fun _ _ _ _ _ _ h => h)))
set_option maxRecDepth 20000 in
theorem bX4_gather_85 {X : pz_C} {rm : Room} {E : Option pz_V → pz_H → Prop} (hX : pz_X X cX4_gather 8 RX4) (hR : pz_Rt X cX4_gather 8 none rm E) : ∀ lv st g c s, (zo_rv rm E) 85 lv st g c s → pz_Z X 8 85 lv st g c s := (zs_rv hR dX4_gather_85)
def rm_X4_gather : Room := { frames := 5, cells := 0, slots := 0, locals := 117 }
abbrev gt_X4_gather : Type := (Nat × Nat × Nat × Nat × Int32) × (Nat × Nat × Nat × Nat) × Int32 × (Nat → Nat) × (Nat × Nat × Nat × (Nat → Int32)) × (Nat × (Nat → lr_T)) × ((Nat → Nat) × (Nat → List (Int32 × Int32)) × (Nat → Int32) × (Nat → Int32))
def pr_X4_gather : gt_X4_gather → List pz_V → pz_H → Prop := fun ((nt, l, from', to, t), (la, pa, na, sa), fd0, Wa, (ti, c, w, f), (nl, L), (fp, Z, N, C)) av g => av = [.inr (.inr (some nt)), .inr (.inr (some l)), .inl (nI from'), .inl (nI to), .inl t] ∧ ntS g nt la pa na sa fd0 Wa ∧ nlS g la nl L ∧ (∀ i, i < nl → ∃ rn A B, lrT g (L i) rn A B) ∧ plS g pa fp Z N C ∧ c ≤ w ∧ w ≤ 101 ∧ lvS g l ti c w f
def gaSc : List Nat → Prop := fun b => b = [1] ∨ (∃ u, lnSc u b) ∨ b = [3] ∨ b = [15]
def po_X4_gather : gt_X4_gather → List pz_V → pz_H → Option pz_V → pz_H → Prop := fun ((nt, l, from', to, t), (la, pa, na, sa), _, Wa, (ti, c, w, f), (nl, L), (_, Z, _, _)) _ g v g' => v = none ∧ hg gaSc g g' ∧ ntS g' nt la pa na sa (t / 86400 - 3) Wa ∧ (∀ i, i < nl → lrW g' (L i) (t / 86400 - 3) Z) ∧ lvS g' l ti (ga_n L (t / 86400 - 3) Z w from' to t (c, f) nl).1 w (ga_n L (t / 86400 - 3) Z w from' to t (c, f) nl).2 ∧ (ga_n L (t / 86400 - 3) Z w from' to t (c, f) nl).1 ≤ w
set_option maxRecDepth 20000 in
set_option maxHeartbeats 4000000 in
theorem ct_X4_gather {G : pz_Gx} (hOk : pz_OK G) (gh : gt_X4_gather) : pz_M G yX4_gather cX4_gather 8 none rm_X4_gather (pr_X4_gather gh) (po_X4_gather gh) := by
  obtain ⟨⟨nt, l, from', to, t⟩, ⟨la, pa, na, sa⟩, fd0, Wa, ⟨ti, c0, w, f0⟩, ⟨nl, L⟩, fp, Z, N, C⟩ := gh
  refine pz_ofZ (by decide) hOk.1 (Or.inl rfl) ?_ ?_
  · rintro av g0 ⟨rfl, -⟩
    exact Nat.le_of_ble_eq_true rfl
  · rintro X hX hGX hrm - av g0 ⟨rfl, hnt0, hnl0, hT0, hpS0, hcw, hw, hlv0⟩ hR
    refine bX4_gather_0 hX _ _ _ _ _ ?_
    refine bX4_gather_3 hX hrm hGX hOk ((nt, t), (la, pa, na, sa), fd0, Wa, (nl, L), (fp, Z, N, C)) (by decide) _ _ _ _ _ ⟨Nat.le_of_ble_eq_true rfl, ⟨nt, [.inl t], [1], _, rfl, hnt0.1⟩, Nat.le_of_ble_eq_true rfl, Nat.le_of_ble_eq_true rfl, Nat.le_of_ble_eq_true rfl, ⟨rfl, hnt0, hnl0, hT0, hpS0⟩, ?_⟩
    rintro v g ⟨rfl, hg0, hnt, hW⟩ _
    have hnl := nlS_mono hg0 (by simp [lnSc]) hnl0
    have hlv := lvS_mono hg0 (by simp [lnSc]) hlv0
    have hS0 : hg gaSc g0 g := hg_mono hg0 (fun b hb => hb.elim Or.inl (fun e => Or.inr (Or.inl e)))
    have hnl40 : nl ≤ 40 := hnl.1
    obtain ⟨fd, hfd⟩ : ∃ fd, fd = t / 86400 - 3 := ⟨_, rfl⟩
    rw [← hfd] at hnt hW
    have loop : ∀ (m k : Nat) (s : Nat × (Nat → Int32)) (gk : pz_H), k + m = nl → s.1 ≤ w → hg (fun b => b = [3] ∨ b = [15]) g gk → lvS gk l ti s.1 w s.2 → s = ga_n L fd Z w from' to t (c0, f0) k → pz_Z X 8 9 [(5, .inl (nI k)), (0, .inr (.inr (some nt))), (1, .inr (.inr (some l))), (2, .inl (nI from')), (3, .inl (nI to)), (4, .inl t)] [] gk 0 0 := by
      intro m
      induction m with
      | zero =>
        intro k s gk hk hs hS hv hr
        obtain rfl : k = nl := by omega
        obtain ⟨-, ⟨-, mc, ed, hls, -⟩, -⟩ := nlS_mono hS (by simp) hnl
        refine bX4_gather_9 hX _ _ _ _ _ ⟨_, _, _, (ntS_mono hS (by simp) hnt).1, rfl, ?_⟩
        refine bX4_gather_15 hX hrm hGX hOk (la, nI k) (by decide) _ _ _ _ _ ⟨Nat.le_of_ble_eq_true rfl, ⟨la, [], [5], _, rfl, hls⟩, Nat.le_of_ble_eq_true rfl, Nat.le_of_ble_eq_true rfl, Nat.le_of_ble_eq_true rfl, ⟨rfl, [5], _, hls, rfl⟩, ?_⟩
        rintro v g' ⟨rfl, rfl⟩ x hx
        cases hx
        refine ⟨fun _ => ?_, fun q => absurd (Int32.le_refl _) q⟩
        subst hfd
        refine bX4_gather_85 hX hR _ _ _ _ _ ⟨Nat.le_refl _, Nat.le_refl _, rfl, hg_tr hS0 (hg_mono hS (fun b hb => Or.inr (Or.inr hb))), ntS_mono hS (by simp) hnt, fun i hi => lrW_mono hS (L i) (by simp) (hW i hi), ?_⟩
        rw [← hr]
        exact ⟨hv, hs⟩
      | succ m ih =>
        intro k s gk hk hs hS hv hr
        have hnt' := ntS_mono hS (by simp) hnt
        obtain ⟨-, hls0, hlr, huq⟩ := nlS_mono hS (by simp) hnl
        obtain ⟨-, mc, ed, hls, -⟩ := id hls0
        refine bX4_gather_9 hX _ _ _ _ _ ⟨_, _, _, hnt'.1, rfl, ?_⟩
        refine bX4_gather_15 hX hrm hGX hOk (la, nI nl) (by decide) _ _ _ _ _ ⟨Nat.le_of_ble_eq_true rfl, ⟨la, [], [5], _, rfl, hls⟩, Nat.le_of_ble_eq_true rfl, Nat.le_of_ble_eq_true rfl, Nat.le_of_ble_eq_true rfl, ⟨rfl, [5], _, hls, rfl⟩, ?_⟩
        rintro v g' ⟨rfl, rfl⟩ x hx
        cases hx
        refine ⟨fun q => absurd ((ni_le (by omega) (by omega)).mp q) (by omega), fun _ => ?_⟩
        refine bX4_gather_23 hX _ _ _ _ _ ⟨_, _, _, hnt'.1, rfl, ?_⟩
        refine bX4_gather_29 hX hrm hGX hOk (la, k, [5], [6], nl, fun i => lr_h (L i)) (by decide) _ _ _ _ _ ⟨Nat.le_of_ble_eq_true rfl, ⟨la, [.inl (nI k)], [5], _, rfl, hls⟩, Nat.le_of_ble_eq_true rfl, Nat.le_of_ble_eq_true rfl, Nat.le_of_ble_eq_true rfl, ⟨rfl, by omega, hls0⟩, ?_⟩
        rintro v g2 ⟨rfl, rfl⟩ x hx
        cases hx
        have hokg := hnl.2.2.1 k (by omega)
        have hWg := hW k (by omega)
        have hnext : ∀ (s2 : Nat × (Nat → Int32)) (g3 : pz_H), s2.1 ≤ w → hg (fun b => b = [3] ∨ b = [15]) g g3 → lvS g3 l ti s2.1 w s2.2 → s2 = ga_l (L k) fd Z w from' to t s 13 → pz_Z X 8 9 [(5, .inl (nI (k + 1))), (0, .inr (.inr (some nt))), (1, .inr (.inr (some l))), (2, .inl (nI from')), (3, .inl (nI to)), (4, .inl t)] [] g3 0 0 := by
          intro s2 g3 hs2 hS3 hv3 hr3
          refine ih (k + 1) s2 g3 (by omega) hs2 hS3 hv3 ?_
          rw [hr3, hr]
          rfl
        have eh : (fun i => lr_h (L i)) k = lr_h (L k) := rfl
        rw [eh]
        generalize L k = x at hokg hWg hnext ⊢
        obtain ⟨⟨u, h⟩, ⟨La, Ra, Rd⟩, ⟨wd, n, dw, lw⟩, ⟨f1, f2, f3⟩, dl, ll⟩ := x
        obtain ⟨rn, A, B, hTk, hrn, hAB⟩ := hWg
        have h01 := fun r => lr_run_01 hokg fd r
        obtain ⟨o1, o2, o3, o4, o5, o6, o7⟩ := hokg
        have o2' := lnH_mono hS (by simp) o2
        refine ⟨_, _, o2'.1, ?_⟩
        have rows : ∀ (m2 r : Nat) (s2 : Nat × (Nat → Int32)) (g3 : pz_H), r + m2 = 13 → s2.1 ≤ w → hg (fun b => b = [3] ∨ b = [15]) g g3 → lvS g3 l ti s2.1 w s2.2 → s2 = ga_l ((u, h), (La, Ra, Rd), (wd, n, dw, lw), (f1, f2, f3), dl, ll) fd Z w from' to t s r → pz_Z X 8 42 [(7, .inl (nI r)), (6, .inr (.inr (some h))), (5, .inl (nI k)), (0, .inr (.inr (some nt))), (1, .inr (.inr (some l))), (2, .inl (nI from')), (3, .inl (nI to)), (4, .inl t)] [] g3 0 0 := by
          intro m2
          induction m2 with
          | zero =>
            intro r s2 g3 hr13 hs2 hS3 hv3 hr3
            obtain rfl : r = 13 := by omega
            refine bX4_gather_42 hX _ _ _ _ _ ⟨fun _ => ?_, fun q => absurd (show (13 : Int32) ≤ nI 13 by decide) q⟩
            refine bX4_gather_79 hX _ _ _ _ _ ?_
            refine pz_lsub (lv' := [(5, .inl (nI (k + 1))), (0, .inr (.inr (some nt))), (1, .inr (.inr (some l))), (2, .inl (nI from')), (3, .inl (nI to)), (4, .inl t)]) ⟨ni_inc, rfl, rfl, rfl, rfl, rfl, trivial⟩ ?_
            exact hnext s2 g3 hs2 hS3 hv3 hr3
          | succ m2 ih2 =>
            intro r s2 g3 hr13 hs2 hS3 hv3 hr3
            have hL3 := lnH_mono hS3 (by simp) o2
            obtain ⟨t7, tA, tB, -⟩ := lrT_mono hS3 _ (by simp) hTk
            have hrc : (nI r).toNatClampNeg = r := ni_cl (by omega)
            have hri : vp_in (nI r) 13 := ni_in (by omega) (by omega)
            have step : ∀ (s4 : Nat × (Nat → Int32)) (g4 : pz_H) (lv : pz_L), pz_all lv [(7, .inl (nI r)), (6, .inr (.inr (some h))), (5, .inl (nI k)), (0, .inr (.inr (some nt))), (1, .inr (.inr (some l))), (2, .inl (nI from')), (3, .inl (nI to)), (4, .inl t)] → s4.1 ≤ w → hg (fun b => b = [3] ∨ b = [15]) g g4 → lvS g4 l ti s4.1 w s4.2 → s4 = ga_r ((u, h), (La, Ra, Rd), (wd, n, dw, lw), (f1, f2, f3), dl, ll) fd Z w from' to t r s2 → pz_Z X 8 73 lv [] g4 0 0 := by
              intro s4 g4 lv hall hs4 hS4 hv4 hr4
              refine pz_lsub hall ?_
              refine bX4_gather_73 hX _ _ _ _ _ ?_
              refine pz_lsub (lv' := [(7, .inl (nI (r + 1))), (6, .inr (.inr (some h))), (5, .inl (nI k)), (0, .inr (.inr (some nt))), (1, .inr (.inr (some l))), (2, .inl (nI from')), (3, .inl (nI to)), (4, .inl t)]) ⟨ni_inc, rfl, rfl, rfl, rfl, rfl, rfl, rfl, trivial⟩ ?_
              refine ih2 (r + 1) s4 g4 (by omega) hs4 hS4 hv4 ?_
              rw [hr4, hr3]
              rfl
            refine bX4_gather_42 hX _ _ _ _ _ ⟨fun q => absurd ((ni_le (a := 13) (by omega) (by omega)).mp q) (by omega), fun _ => ?_⟩
            refine bX4_gather_49 hX _ _ _ _ _ ⟨_, _, _, hL3.1, rfl, _, _, _, t7, hri, ?_⟩
            rw [hrc, hrn r (by omega)]
            refine ⟨fun q => ?_, fun q => ?_⟩
            · refine step s2 g3 _ ⟨rfl, rfl, rfl, rfl, rfl, rfl, rfl, rfl, trivial⟩ hs2 hS3 hv3 ?_
              unfold ga_r
              rw [if_neg (by rw [q]; decide)]
            · have hr1 : lr_run ((u, h), (La, Ra, Rd), (wd, n, dw, lw), (f1, f2, f3), dl, ll) fd r = 1 := (h01 r).resolve_left q
              have hab := hAB r (by omega) ((hrn r (by omega)).trans hr1)
              refine bX4_gather_60 hX _ _ _ _ _ ?_
              refine bX4_gather_70 hX hrm hGX hOk ((nt, l, h, r, from', to, t), (ti, s2.1, w, s2.2), (u, La, Ra, Rd), (wd, n, dw, lw), (f1, f2, f3), (A r, B r)) (by decide) _ _ _ _ _ ⟨Nat.le_of_ble_eq_true rfl, ⟨nt, [.inr (.inr (some l)), .inr (.inr (some h)), .inl (nI r), .inl (nI from'), .inl (nI to), .inl t], [1], _, rfl, (ntS_mono hS3 (by simp) hnt).1⟩, Nat.le_of_ble_eq_true rfl, Nat.le_of_ble_eq_true rfl, Nat.le_of_ble_eq_true rfl, ⟨rfl, by omega, o1, hs2, hw, hv3, hL3, tA r (by omega), tB r (by omega)⟩, ?_⟩
              rintro v g4 ⟨rfl, h4, hv4, hs4⟩ _
              rw [gt_i_congr n 0 _ (Nat.zero_add n) hab] at hv4 hs4
              refine step (gt_i w f1 _ _ n from' to t 0 n (s2.1, s2.2)) g4 _ ⟨rfl, rfl, rfl, rfl, rfl, rfl, rfl, rfl, trivial⟩ hs4 (hg_tr hS3 h4) hv4 ?_
              unfold ga_r
              rw [if_pos hr1]
        refine pz_lsub (lv' := [(7, .inl (nI 0)), (6, .inr (.inr (some h))), (5, .inl (nI k)), (0, .inr (.inr (some nt))), (1, .inr (.inr (some l))), (2, .inl (nI from')), (3, .inl (nI to)), (4, .inl t)]) ⟨rfl, rfl, rfl, rfl, rfl, rfl, rfl, rfl, trivial⟩ ?_
        exact rows 13 0 s g2 (by omega) hs hS hv rfl
    refine pz_lsub (lv' := [(5, .inl (nI 0)), (0, .inr (.inr (some nt))), (1, .inr (.inr (some l))), (2, .inl (nI from')), (3, .inl (nI to)), (4, .inl t)]) ⟨rfl, rfl, rfl, rfl, rfl, rfl, trivial⟩ ?_
    exact loop nl 0 (c0, f0) g (by omega) hcw hg_rf hlv rfl
