/-! a line's cells: what stays in a search (lnH), what a search works out (lnT); the places (plS) -/
abbrev ln_fs (wd : Int32) (sp sa sl n : Nat) (dw lw : Option Nat) (ra ar dp lb : Nat) : List pz_V := [.inl wd, .inr (.inr (some sp)), .inr (.inr (some sa)), .inr (.inr (some sl)), .inl (nI n), .inr (.inr dw), .inr (.inr lw), .inr (.inr (some ra)), .inr (.inr (some ar)), .inr (.inr (some dp)), .inr (.inr (some lb))]
abbrev ar_i (n : Nat) (f : Nat → Int32) : pz_E := .inl (0, n, .inl f)
abbrev ar_z (n : Nat) (f : Nat → Int32) : pz_E := .inl (2, n, .inl f)
abbrev ar_r (t n : Nat) (f : Nat → Option Nat) : pz_E := .inl (t, n, .inr (.inr (.inr (.inr f))))
def lnH (g : pz_H) (u h : Nat) (La Ra Rd : Nat → Nat) (wd : Int32) (n : Nat) (dw lw : Option Nat) (f1 f2 f3 : Nat → Int32) : Prop :=
  g h = some ([30, u], .inr (5, ln_fs wd (La 1) (La 2) (La 3) n dw lw (La 7) (La 8) (La 9) (La 10))) ∧ g (La 1) = some ([31, u], ar_i 12 f1) ∧ g (La 2) = some ([32, u], ar_i 12 f2) ∧ g (La 3) = some ([33, u], ar_i 12 f3) ∧ (∃ o, g (La 8) = some ([35, u], ar_r 6 13 o) ∧ ∀ i, i < 13 → o i = some (Ra i)) ∧ ∃ o, g (La 9) = some ([37, u], ar_r 6 13 o) ∧ ∀ i, i < 13 → o i = some (Rd i)
def plS (g : pz_H) (pa : Nat) (fp : Nat → Nat) (Z : Nat → List (Int32 × Int32)) (N C : Nat → Int32) : Prop :=
  (∃ o, g pa = some ([9], ar_r 4 100 o) ∧ ∀ p, p < 100 → o p = some (fp p)) ∧ ∀ p, p < 100 → ∃ r, g (fp p) = some ([20, p], .inr (7, [.inr (.inr r), .inl (N p), .inl (C p)])) ∧ pl_ch g p r (Z p)
theorem lnH_mono {g g' : pz_H} {S : List Nat → Prop} (hh : hg S g g') {u h : Nat} {La Ra Rd : Nat → Nat} {wd : Int32} {n : Nat} {dw lw : Option Nat} {f1 f2 f3 : Nat → Int32} (hS : ¬ S [30, u] ∧ ¬ S [31, u] ∧ ¬ S [32, u] ∧ ¬ S [33, u] ∧ ¬ S [35, u] ∧ ¬ S [37, u]) (h1 : lnH g u h La Ra Rd wd n dw lw f1 f2 f3) : lnH g' u h La Ra Rd wd n dw lw f1 f2 f3 := by
  obtain ⟨a1, a2, a3, a4, ⟨o, a5, a6⟩, o2, a7, a8⟩ := h1
  obtain ⟨s1, s2, s3, s4, s5, s6⟩ := hS
  exact ⟨hh _ _ _ a1 s1, hh _ _ _ a2 s2, hh _ _ _ a3 s3, hh _ _ _ a4 s4, ⟨o, hh _ _ _ a5 s5, a6⟩, o2, hh _ _ _ a7 s6, a8⟩
theorem plS_mono {g g' : pz_H} {S : List Nat → Prop} (hh : hg S g g') {pa : Nat} {fp : Nat → Nat} {Z : Nat → List (Int32 × Int32)} {N C : Nat → Int32} (hS : ¬ S [9] ∧ (∀ p, ¬ S [20, p]) ∧ ∀ p d, ¬ S [21, p, d]) (h1 : plS g pa fp Z N C) : plS g' pa fp Z N C := by
  obtain ⟨⟨o, a1, a2⟩, a3⟩ := h1
  obtain ⟨s1, s2, s3⟩ := hS
  refine ⟨⟨o, hh _ _ _ a1 s1, a2⟩, fun p hp => ?_⟩
  obtain ⟨r, b1, b2⟩ := a3 p hp
  exact ⟨r, hh _ _ _ b1 (s2 p), pl_mono hh (s3 p) _ _ b2⟩
/-- how late the line is at its first k stops, in all -/
def wt_l (d : Int32) (ll : List (Int32 × Int32 × Int32)) : Nat → Int32
  | 0 => 0
  | k + 1 => wt_l d ll k + lt_acc d k ll 0
def wt_s (d : Int32) (ll : List (Int32 × Int32 × Int32)) (f1 : Nat → Int32) (Z : Nat → List (Int32 × Int32)) (k : Nat) : Int32 := 86400 * d - 60 * pl_min (86400 * d) 0 (Z (f1 k).toNatClampNeg) + wt_l d ll (k + 1)
set_option maxRecDepth 20000 in
theorem bX3_workOutTimes_0 {X : pz_C} (hX : pz_X X cX3_workOutTimes 8 RX3) : ∀ lv st g c s, (zo_al 1 0 (zo_il 1 2 (pz_Z X 8))) 0 lv st g c s → pz_Z X 8 0 lv st g c s := (zs_aload_n hX dX3_workOutTimes_0 rfl (zs_iload_n hX dX3_workOutTimes_1 rfl (fun _ _ _ _ _ h => h)))
set_option maxRecDepth 20000 in
theorem bX3_workOutTimes_2 {X : pz_C} {G : pz_Gx} {rm : Room} (hX : pz_X X cX3_workOutTimes 8 RX3) (hrm : pz_rm X = rm) (hGX : pz_GX X G) (hOk : pz_OK G) (gh : gt_X3_gatherLate) (hr_X3_gatherLate : rm_X3_gatherLate.frames + 1 ≤ rm.frames ∧ 8 + (3 + 11) + rm_X3_gatherLate.locals ≤ rm.locals) : ∀ lv st g c s, (zo_cV rm 5 1 3 rm_X3_gatherLate.cells rm_X3_gatherLate.slots (pr_X3_gatherLate gh) (po_X3_gatherLate gh) (zo_kv (zo_ic 2 (86400) (zo_il 1 2 (zo_imul (zo_is 2 4 (zo_ic 1 (0) (zo_is 2 5 (zo_ic 1 (0) (zo_is 2 6 (pz_Z X 8))))))))))) 2 lv st g c s → pz_Z X 8 2 lv st g c s := by
  subst hrm
  exact (zs_csV hX hGX (C := RX3) (T := TX3) (N := 11) rfl (ct_X3_gatherLate hOk gh) mw_f531baa8 mw_6acb76ba mw_61d3abdd mw_ad64dfa1 mw_83e9764b (by decide +kernel) hr_X3_gatherLate dX3_workOutTimes_2 (zs_kv (zs_ldc hX dX3_workOutTimes_5 mw_85fe67e2 (zs_iload_n hX dX3_workOutTimes_7 rfl (zs_imul hX dX3_workOutTimes_8 (zs_istore hX dX3_workOutTimes_9 (by decide) (zs_iconst hX dX3_workOutTimes_11 (by decide) (zs_istore hX dX3_workOutTimes_12 (by decide) (zs_iconst hX dX3_workOutTimes_14 (by decide) (zs_istore hX dX3_workOutTimes_15 (by decide) (fun _ _ _ _ _ h => h)))))))))))
set_option maxRecDepth 20000 in
theorem bX3_workOutTimes_17 {X : pz_C} (hX : pz_X X cX3_workOutTimes 8 RX3) : ∀ lv st g c s, (zo_il 2 6 (zo_al 1 0 (zo_get 5 4 (zo_ic_ge 107 (pz_Z X 8))))) 17 lv st g c s → pz_Z X 8 17 lv st g c s := (zs_iload hX dX3_workOutTimes_17 (zs_aload_n hX dX3_workOutTimes_19 rfl (zs_get hX (C := RX3) (T := TX3) (N := 11) rfl in_X3 (by decide) mw_eb463ec7 dX3_workOutTimes_20 (zs_ic_ge hX dX3_workOutTimes_23 (by decide) (fun _ _ _ _ _ _ h => h)))))
set_option maxRecDepth 20000 in
theorem bX3_workOutTimes_26 {X : pz_C} (hX : pz_X X cX3_workOutTimes 8 RX3) : ∀ lv st g c s, (zo_il 2 5 (zo_al 1 0 (zo_get 5 10 (zo_il 2 6 (zo_iald (zo_iadd (zo_is 2 5 (zo_il 2 4 (zo_ic 2 (60) (zo_al 1 3 (zo_al 1 0 (zo_get 5 1 (zo_il 2 6 (zo_iald (zo_aald 4 (zo_il 2 4 (pz_Z X 8))))))))))))))))) 26 lv st g c s → pz_Z X 8 26 lv st g c s := (zs_iload hX dX3_workOutTimes_26 (zs_aload_n hX dX3_workOutTimes_28 rfl (zs_get hX (C := RX3) (T := TX3) (N := 11) rfl in_X3 (by decide) mw_b5197fa4 dX3_workOutTimes_29 (zs_iload hX dX3_workOutTimes_32 (zs_iald hX dX3_workOutTimes_34 (zs_iadd hX dX3_workOutTimes_35 (zs_istore hX dX3_workOutTimes_36 (by decide) (zs_iload hX dX3_workOutTimes_38 (zs_bipush hX dX3_workOutTimes_40 (by decide) (zs_aload_n hX dX3_workOutTimes_42 rfl (zs_aload_n hX dX3_workOutTimes_43 rfl (zs_get hX (C := RX3) (T := TX3) (N := 11) rfl in_X3 (by decide) mw_7ffb4013 dX3_workOutTimes_44 (zs_iload hX dX3_workOutTimes_47 (zs_iald hX dX3_workOutTimes_49 (zs_aald hX (ty := (.object "LineTimes$Place")) (fun _ => rfl) rfl dX3_workOutTimes_50 (zs_iload hX dX3_workOutTimes_51 (fun _ _ _ _ _ h => h)))))))))))))))))
set_option maxRecDepth 20000 in
theorem bX3_workOutTimes_53 {X : pz_C} {G : pz_Gx} {rm : Room} (hX : pz_X X cX3_workOutTimes 8 RX3) (hrm : pz_rm X = rm) (hGX : pz_GX X G) (hOk : pz_OK G) (gh : gt_X5_minutesAt) (hr_X5_minutesAt : rm_X5_minutesAt.frames + 1 ≤ rm.frames ∧ 8 + (4 + 11) + rm_X5_minutesAt.locals ≤ rm.locals) : ∀ lv st g c s, (zo_cV rm 7 1 3 rm_X5_minutesAt.cells rm_X5_minutesAt.slots (pr_X5_minutesAt gh) (po_X5_minutesAt gh) (zo_ki (zo_imul (zo_isub (zo_il 2 5 (zo_iadd (zo_is 2 7 (zo_al 1 0 (zo_get 5 8 (zo_il 1 1 (zo_aald 6 (zo_il 2 6 (zo_al 1 0 (zo_get 5 2 (zo_il 2 6 (zo_iald (zo_il 2 7 (zo_iadd (zo_iast (zo_al 1 0 (zo_get 5 9 (zo_il 1 1 (zo_aald 6 (zo_il 2 6 (zo_al 1 0 (zo_get 5 3 (zo_il 2 6 (zo_iald (zo_il 2 7 (zo_iadd (zo_iast (zo_inc 6 (1) (zo_goto 17 (pz_Z X 8)))))))))))))))))))))))))))))))))) 53 lv st g c s → pz_Z X 8 53 lv st g c s := by
  subst hrm
  exact (zs_csV hX hGX (C := RX5) (T := TX5) (N := 3) rfl (ct_X5_minutesAt hOk gh) mw_b6f75c5a mw_1a82624b mw_d87dbaba mw_fae7169a mw_665a371f (by decide +kernel) hr_X5_minutesAt dX3_workOutTimes_53 (zs_ki (zs_imul hX dX3_workOutTimes_56 (zs_isub hX dX3_workOutTimes_57 (zs_iload hX dX3_workOutTimes_58 (zs_iadd hX dX3_workOutTimes_60 (zs_istore hX dX3_workOutTimes_61 (by decide) (zs_aload_n hX dX3_workOutTimes_63 rfl (zs_get hX (C := RX3) (T := TX3) (N := 11) rfl in_X3 (by decide) mw_a565fce3 dX3_workOutTimes_64 (zs_iload_n hX dX3_workOutTimes_67 rfl (zs_aald hX (ty := (.array .int)) (fun _ => rfl) rfl dX3_workOutTimes_68 (zs_iload hX dX3_workOutTimes_69 (zs_aload_n hX dX3_workOutTimes_71 rfl (zs_get hX (C := RX3) (T := TX3) (N := 11) rfl in_X3 (by decide) mw_22306b94 dX3_workOutTimes_72 (zs_iload hX dX3_workOutTimes_75 (zs_iald hX dX3_workOutTimes_77 (zs_iload hX dX3_workOutTimes_78 (zs_iadd hX dX3_workOutTimes_80 (zs_iast hX dX3_workOutTimes_81 (zs_aload_n hX dX3_workOutTimes_82 rfl (zs_get hX (C := RX3) (T := TX3) (N := 11) rfl in_X3 (by decide) mw_d9a7b0a9 dX3_workOutTimes_83 (zs_iload_n hX dX3_workOutTimes_86 rfl (zs_aald hX (ty := (.array .int)) (fun _ => rfl) rfl dX3_workOutTimes_87 (zs_iload hX dX3_workOutTimes_88 (zs_aload_n hX dX3_workOutTimes_90 rfl (zs_get hX (C := RX3) (T := TX3) (N := 11) rfl in_X3 (by decide) mw_23200ee7 dX3_workOutTimes_91 (zs_iload hX dX3_workOutTimes_94 (zs_iald hX dX3_workOutTimes_96 (zs_iload hX dX3_workOutTimes_97 (zs_iadd hX dX3_workOutTimes_99 (zs_iast hX dX3_workOutTimes_100 (zs_iinc hX dX3_workOutTimes_101 (by decide) (by decide) (zs_goto hX dX3_workOutTimes_104 (by decide) (fun _ _ _ _ _ _ h => h))))))))))))))))))))))))))))))))))
set_option maxRecDepth 20000 in
theorem bX3_workOutTimes_107 {X : pz_C} {rm : Room} {E : Option pz_V → pz_H → Prop} (hX : pz_X X cX3_workOutTimes 8 RX3) (hR : pz_Rt X cX3_workOutTimes 8 none rm E) : ∀ lv st g c s, (zo_rv rm E) 107 lv st g c s → pz_Z X 8 107 lv st g c s := (zs_rv hR dX3_workOutTimes_107)
def rm_X3_workOutTimes : Room := { frames := 2, cells := 0, slots := 0, locals := 45 }
abbrev gt_X3_workOutTimes : Type := (Nat × Nat × Int32 × Nat) × Nat × ((Nat → Nat) × (Nat → Nat) × (Nat → Nat)) × (Int32 × Nat × Option Nat × Option Nat) × ((Nat → Int32) × (Nat → Int32) × (Nat → Int32)) × List (Int32 × Int32 × Int32) × ((Nat → Nat) × (Nat → List (Int32 × Int32)) × (Nat → Int32) × (Nat → Int32))
def pr_X3_workOutTimes : gt_X3_workOutTimes → List pz_V → pz_H → Prop := fun ((h, row, d, pa), u, (La, Ra, Rd), (wd, n, dw, lw), (f1, f2, f3), ll, (fp, Z, N, C)) av g => av = [.inr (.inr (some h)), .inl (nI row), .inl d, .inr (.inr (some pa))] ∧ row < 13 ∧ n ≤ 12 ∧ lnH g u h La Ra Rd wd n dw lw f1 f2 f3 ∧ lt_ch g u lw ll ∧ (∀ q ∈ ll, ∃ k, k < 12 ∧ q.1 = nI k) ∧ (∀ k, k < n → ∃ p, p < 100 ∧ f1 k = nI p) ∧ plS g pa fp Z N C ∧ (∃ A, g (Ra row) = some ([36, u, row], ar_i 12 A)) ∧ (∃ B, g (Rd row) = some ([38, u, row], ar_i 12 B)) ∧ ∃ f, g (La 10) = some ([39, u], ar_i 12 f)
def po_X3_workOutTimes : gt_X3_workOutTimes → List pz_V → pz_H → Option pz_V → pz_H → Prop := fun ((_, row, d, _), u, (La, Ra, Rd), (_, n, _, _), (f1, f2, f3), ll, (_, Z, _, _)) _ g v g' => v = none ∧ hg (fun b => b = [36, u, row] ∨ b = [38, u, row] ∨ b = [39, u]) g g' ∧ (∃ A, g' (Ra row) = some ([36, u, row], ar_i 12 A) ∧ ∀ k, k < n → A k = f2 k + wt_s d ll f1 Z k) ∧ (∃ B, g' (Rd row) = some ([38, u, row], ar_i 12 B) ∧ ∀ k, k < n → B k = f3 k + wt_s d ll f1 Z k) ∧ ∃ f, g' (La 10) = some ([39, u], ar_i 12 f)
set_option maxRecDepth 20000 in
set_option maxHeartbeats 4000000 in
theorem ct_X3_workOutTimes {G : pz_Gx} (hOk : pz_OK G) (gh : gt_X3_workOutTimes) : pz_M G yX3_workOutTimes cX3_workOutTimes 8 none rm_X3_workOutTimes (pr_X3_workOutTimes gh) (po_X3_workOutTimes gh) := by
  obtain ⟨⟨h, row, d, pa⟩, u, ⟨La, Ra, Rd⟩, ⟨wd, n, dw, lw⟩, ⟨f1, f2, f3⟩, ll, fp, Z, N, C⟩ := gh
  refine pz_ofZ (by decide) hOk.1 (Or.inl rfl) ?_ ?_
  · rintro av g ⟨rfl, -⟩
    exact Nat.le_of_ble_eq_true rfl
  · rintro X hX hGX hrm - av g ⟨rfl, hrow, hn, hL, hlt, hst, hpl, hpS, ⟨A0, hA0⟩, ⟨B0, hB0⟩, lb0, hlb0⟩ hR
    have loop : ∀ (lbf : Nat → Int32), (∀ j, j < 12 → lbf j = lt_acc d j ll 0) → ∀ (m k : Nat) (A2 B2 : Nat → Int32) (gk : pz_H), k + m = n → hg (fun b => b = [36, u, row] ∨ b = [38, u, row] ∨ b = [39, u]) g gk → gk (Ra row) = some ([36, u, row], ar_i 12 A2) → gk (Rd row) = some ([38, u, row], ar_i 12 B2) → gk (La 10) = some ([39, u], ar_i 12 lbf) → (∀ j, j < k → A2 j = f2 j + wt_s d ll f1 Z j ∧ B2 j = f3 j + wt_s d ll f1 Z j) → pz_Z X 8 17 [(6, .inl (nI k)), (5, .inl (wt_l d ll k)), (4, .inl (86400 * d)), (0, .inr (.inr (some h))), (1, .inl (nI row)), (2, .inl d), (3, .inr (.inr (some pa)))] [] gk 0 0 := by
      intro lbf hlbf m
      induction m with
      | zero =>
        intro k A2 B2 gk hk hS hA hB hlb hAB
        have hL' := lnH_mono hS (by simp) hL
        refine bX3_workOutTimes_17 hX _ _ _ _ _ ⟨_, _, _, hL'.1, rfl, fun _ => ?_, fun q => absurd ((ni_le (by omega) (by omega)).mpr (by omega)) q⟩
        exact bX3_workOutTimes_107 hX hR _ _ _ _ _ ⟨Nat.le_refl _, Nat.le_refl _, rfl, hS, ⟨A2, hA, fun j hj => (hAB j (by omega)).1⟩, ⟨B2, hB, fun j hj => (hAB j (by omega)).2⟩, lbf, hlb⟩
      | succ m ih =>
        intro k A2 B2 gk hk hS hA hB hlb hAB
        obtain ⟨hh, h1, h2, h3, ⟨o8, h8, ho8⟩, o9, h9, ho9⟩ := lnH_mono hS (by simp) hL
        obtain ⟨⟨op, hpa, hop⟩, hpp⟩ := plS_mono hS (by simp) hpS
        obtain ⟨p, hp, hfp⟩ := hpl k (by omega)
        obtain ⟨r, hpl1, hpl2⟩ := hpp p hp
        have hk12 : vp_in (nI k) 12 := ni_in (by omega) (by omega)
        have hkc : (nI k).toNatClampNeg = k := ni_cl (by omega)
        have hrc : (nI row).toNatClampNeg = row := ni_cl (by omega)
        have hri : vp_in (nI row) 13 := ni_in hrow (by omega)
        refine bX3_workOutTimes_17 hX _ _ _ _ _ ⟨_, _, _, hh, rfl, fun q => absurd ((ni_le (by omega) (by omega)).mp q) (by omega), fun _ => ?_⟩
        refine bX3_workOutTimes_26 hX _ _ _ _ _ ⟨_, _, _, hh, rfl, _, _, _, hlb, hk12, _, _, _, hh, rfl, _, _, _, h1, hk12, _, _, _, hpa, ?_, ?_⟩
        · rw [hkc, hfp]; exact ni_in hp (by omega)
        rw [hkc, hfp, ni_cl (j := p) (by omega), hop p hp]
        refine bX3_workOutTimes_53 hX hrm hGX hOk (fp p, 86400 * d, p, Z p) (by decide) _ _ _ _ _ ⟨Nat.le_of_ble_eq_true rfl, ⟨fp p, [.inl (86400 * d)], [20, p], _, rfl, hpl1⟩, Nat.le_of_ble_eq_true rfl, Nat.le_of_ble_eq_true rfl, Nat.le_of_ble_eq_true rfl, ⟨rfl, [20, p], r, _, _, hpl1, hpl2⟩, ?_⟩
        rintro v g' ⟨rfl, rfl⟩ x hx
        cases hx
        refine ⟨_, _, _, hh, rfl, _, _, _, h8, hri, ?_⟩
        rw [hrc, ho8 row hrow]
        refine ⟨_, _, _, hh, rfl, _, _, _, h2, hk12, _, _, _, hA, hk12, _, _, _, up_ne hh hA (by simp), rfl, _, _, _, up_ne h9 hA (by simp), hri, ?_⟩
        rw [hrc, ho9 row hrow]
        refine ⟨_, _, _, up_ne hh hA (by simp), rfl, _, _, _, up_ne h3 hA (by simp), hk12, _, _, _, up_ne hB hA (by simp), hk12, ?_⟩
        rw [hkc, hlbf k (by omega)]
        refine pz_lsub (lv' := [(6, .inl (nI (k + 1))), (5, .inl (wt_l d ll (k + 1))), (4, .inl (86400 * d)), (0, .inr (.inr (some h))), (1, .inl (nI row)), (2, .inl d), (3, .inr (.inr (some pa)))]) ⟨ni_inc, rfl, rfl, rfl, rfl, rfl, rfl, trivial⟩ ?_
        have hsh : 86400 * d - 60 * pl_min (86400 * d) 0 (Z p) + (wt_l d ll k + lt_acc d k ll 0) = wt_s d ll f1 Z k := by
          unfold wt_s
          rw [hfp, ni_cl (j := p) (by omega)]
          rfl
        rw [hsh]
        refine ih (k + 1) _ _ _ (by omega) (hg_up (hg_up hS hA (Or.inl rfl)) (up_ne hB hA (by simp)) (Or.inr (Or.inl rfl))) (up_ne up_at (up_ne hB hA (by simp)) (by simp)) up_at (up_ne (up_ne hlb hA (by simp)) (up_ne hB hA (by simp)) (by simp)) (fun j hj => ?_)
        by_cases hjk : j = k
        · subst hjk
          exact ⟨pk_us, pk_us⟩
        · rw [pk_un hjk, pk_un hjk]
          exact hAB j (by omega)
    refine bX3_workOutTimes_0 hX _ _ _ _ _ ?_
    refine bX3_workOutTimes_2 hX hrm hGX hOk (h, d, u, ll, La 10, lb0) (by decide) _ _ _ _ _ ⟨Nat.le_of_ble_eq_true rfl, ⟨h, [.inl d], [30, u], _, rfl, hL.1⟩, Nat.le_of_ble_eq_true rfl, Nat.le_of_ble_eq_true rfl, Nat.le_of_ble_eq_true rfl, ⟨rfl, hst, _, _, hL.1, rfl, rfl, hlt, hlb0⟩, ?_⟩
    rintro v g' ⟨rfl, f', rfl, hf'⟩ _
    exact loop f' hf' n 0 A0 B0 _ (by omega) (hg_up hg_rf hlb0 (Or.inr (Or.inr rfl))) (up_ne hA0 hlb0 (by simp)) (up_ne hB0 hlb0 (by simp)) up_at (fun j hj => absurd hj (Nat.not_lt_zero j))
/-! the runs of the thirteen days -/
def lnT (g : pz_H) (u : Nat) (La Ra Rd : Nat → Nat) (rn : Nat → Int32) (A B : Nat → Nat → Int32) : Prop :=
  g (La 7) = some ([34, u], ar_z 13 rn) ∧ (∀ i, i < 13 → g (Ra i) = some ([36, u, i], ar_i 12 (A i))) ∧ (∀ i, i < 13 → g (Rd i) = some ([38, u, i], ar_i 12 (B i))) ∧ ∃ f, g (La 10) = some ([39, u], ar_i 12 f)
def lnSc (u : Nat) : List Nat → Prop := fun b => b = [34, u] ∨ (∃ i, b = [36, u, i]) ∨ (∃ i, b = [38, u, i]) ∨ b = [39, u]
set_option maxRecDepth 20000 in
theorem bX3_workOutRuns_0 {X : pz_C} (hX : pz_X X cX3_workOutRuns 4 RX3) : ∀ lv st g c s, (zo_ic 1 (0) (zo_is 1 3 (pz_Z X 4))) 0 lv st g c s → pz_Z X 4 0 lv st g c s := (zs_iconst hX dX3_workOutRuns_0 (by decide) (zs_istore_n hX dX3_workOutRuns_1 rfl (by decide) (fun _ _ _ _ _ h => h)))
set_option maxRecDepth 20000 in
theorem bX3_workOutRuns_2 {X : pz_C} (hX : pz_X X cX3_workOutRuns 4 RX3) : ∀ lv st g c s, (zo_il 1 3 (zo_ic 2 (13) (zo_ic_ge 45 (pz_Z X 4)))) 2 lv st g c s → pz_Z X 4 2 lv st g c s := (zs_iload_n hX dX3_workOutRuns_2 rfl (zs_bipush hX dX3_workOutRuns_3 (by decide) (zs_ic_ge hX dX3_workOutRuns_5 (by decide) (fun _ _ _ _ _ _ h => h))))
set_option maxRecDepth 20000 in
theorem bX3_workOutRuns_8 {X : pz_C} (hX : pz_X X cX3_workOutRuns 4 RX3) : ∀ lv st g c s, (zo_al 1 0 (zo_get 5 7 (zo_il 1 3 (zo_al 1 0 (zo_il 1 1 (zo_il 1 3 (zo_iadd (pz_Z X 4)))))))) 8 lv st g c s → pz_Z X 4 8 lv st g c s := (zs_aload_n hX dX3_workOutRuns_8 rfl (zs_get hX (C := RX3) (T := TX3) (N := 11) rfl in_X3 (by decide) mw_5b456fc6 dX3_workOutRuns_9 (zs_iload_n hX dX3_workOutRuns_12 rfl (zs_aload_n hX dX3_workOutRuns_13 rfl (zs_iload_n hX dX3_workOutRuns_14 rfl (zs_iload_n hX dX3_workOutRuns_15 rfl (zs_iadd hX dX3_workOutRuns_16 (fun _ _ _ _ _ h => h))))))))
set_option maxRecDepth 20000 in
theorem bX3_workOutRuns_17 {X : pz_C} {G : pz_Gx} {rm : Room} (hX : pz_X X cX3_workOutRuns 4 RX3) (hrm : pz_rm X = rm) (hGX : pz_GX X G) (hOk : pz_OK G) (gh : gt_X3_runsOn) (hr_X3_runsOn : rm_X3_runsOn.frames + 1 ≤ rm.frames ∧ 8 + (3 + 11) + rm_X3_runsOn.locals ≤ rm.locals) : ∀ lv st g c s, (zo_cV rm 5 1 3 rm_X3_runsOn.cells rm_X3_runsOn.slots (pr_X3_runsOn gh) (po_X3_runsOn gh) (zo_kz (zo_zast (zo_al 1 0 (zo_get 5 7 (zo_il 1 3 (zo_zald (zo_if_eq 39 (pz_Z X 4))))))))) 17 lv st g c s → pz_Z X 4 17 lv st g c s := by
  subst hrm
  exact (zs_csV hX hGX (C := RX3) (T := TX3) (N := 11) rfl (ct_X3_runsOn hOk gh) mw_4f1ebaac mw_1a52d823 mw_ba907501 mw_ad64dfa1 mw_f2baf0bd (by decide +kernel) hr_X3_runsOn dX3_workOutRuns_17 (zs_kz (zs_zast hX dX3_workOutRuns_20 (zs_aload_n hX dX3_workOutRuns_21 rfl (zs_get hX (C := RX3) (T := TX3) (N := 11) rfl in_X3 (by decide) mw_5b456fc6 dX3_workOutRuns_22 (zs_iload_n hX dX3_workOutRuns_25 rfl (zs_zald hX dX3_workOutRuns_26 (zs_if_eq hX dX3_workOutRuns_27 (by decide) (fun _ _ _ _ _ _ h => h)))))))))
set_option maxRecDepth 20000 in
theorem bX3_workOutRuns_30 {X : pz_C} (hX : pz_X X cX3_workOutRuns 4 RX3) : ∀ lv st g c s, (zo_al 1 0 (zo_il 1 3 (zo_il 1 1 (zo_il 1 3 (zo_iadd (zo_al 1 2 (pz_Z X 4))))))) 30 lv st g c s → pz_Z X 4 30 lv st g c s := (zs_aload_n hX dX3_workOutRuns_30 rfl (zs_iload_n hX dX3_workOutRuns_31 rfl (zs_iload_n hX dX3_workOutRuns_32 rfl (zs_iload_n hX dX3_workOutRuns_33 rfl (zs_iadd hX dX3_workOutRuns_34 (zs_aload_n hX dX3_workOutRuns_35 rfl (fun _ _ _ _ _ h => h)))))))
set_option maxRecDepth 20000 in
theorem bX3_workOutRuns_36 {X : pz_C} {G : pz_Gx} {rm : Room} (hX : pz_X X cX3_workOutRuns 4 RX3) (hrm : pz_rm X = rm) (hGX : pz_GX X G) (hOk : pz_OK G) (gh : gt_X3_workOutTimes) (hr_X3_workOutTimes : rm_X3_workOutTimes.frames + 1 ≤ rm.frames ∧ 8 + (8 + 11) + rm_X3_workOutTimes.locals ≤ rm.locals) : ∀ lv st g c s, (zo_cV rm 5 3 3 rm_X3_workOutTimes.cells rm_X3_workOutTimes.slots (pr_X3_workOutTimes gh) (po_X3_workOutTimes gh) (zo_kv (pz_Z X 4))) 36 lv st g c s → pz_Z X 4 36 lv st g c s := by
  subst hrm
  exact (zs_csV hX hGX (C := RX3) (T := TX3) (N := 11) rfl (ct_X3_workOutTimes hOk gh) mw_7b092935 mw_26175f65 mw_1d00ce55 mw_ad64dfa1 mw_9bc4609e (by decide +kernel) hr_X3_workOutTimes dX3_workOutRuns_36 (zs_kv (fun _ _ _ _ _ h => h)))
set_option maxRecDepth 20000 in
theorem bX3_workOutRuns_39 {X : pz_C} (hX : pz_X X cX3_workOutRuns 4 RX3) : ∀ lv st g c s, (zo_inc 3 (1) (zo_goto 2 (pz_Z X 4))) 39 lv st g c s → pz_Z X 4 39 lv st g c s := (zs_iinc hX dX3_workOutRuns_39 (by decide) (by decide) (zs_goto hX dX3_workOutRuns_42 (by decide) (fun _ _ _ _ _ _ h => h)))
set_option maxRecDepth 20000 in
theorem bX3_workOutRuns_45 {X : pz_C} {rm : Room} {E : Option pz_V → pz_H → Prop} (hX : pz_X X cX3_workOutRuns 4 RX3) (hR : pz_Rt X cX3_workOutRuns 4 none rm E) : ∀ lv st g c s, (zo_rv rm E) 45 lv st g c s → pz_Z X 4 45 lv st g c s := (zs_rv hR dX3_workOutRuns_45)
def rm_X3_workOutRuns : Room := { frames := 3, cells := 0, slots := 0, locals := 72 }
abbrev gt_X3_workOutRuns : Type := (Nat × Int32 × Nat) × Nat × ((Nat → Nat) × (Nat → Nat) × (Nat → Nat)) × (Int32 × Nat × Option Nat × Option Nat) × ((Nat → Int32) × (Nat → Int32) × (Nat → Int32)) × (List (Int32 × Int32) × List (Int32 × Int32 × Int32)) × ((Nat → Nat) × (Nat → List (Int32 × Int32)) × (Nat → Int32) × (Nat → Int32))
def pr_X3_workOutRuns : gt_X3_workOutRuns → List pz_V → pz_H → Prop := fun ((h, fd, pa), u, (La, Ra, Rd), (wd, n, dw, lw), (f1, f2, f3), (dl, ll), (fp, Z, N, C)) av g => av = [.inr (.inr (some h)), .inl fd, .inr (.inr (some pa))] ∧ n ≤ 12 ∧ lnH g u h La Ra Rd wd n dw lw f1 f2 f3 ∧ dw_ch g u dw dl ∧ (∀ q ∈ dl, q.2 = 0 ∨ q.2 = 1) ∧ lt_ch g u lw ll ∧ (∀ q ∈ ll, ∃ k, k < 12 ∧ q.1 = nI k) ∧ (∀ k, k < n → ∃ p, p < 100 ∧ f1 k = nI p) ∧ plS g pa fp Z N C ∧ ∃ rn A B, lnT g u La Ra Rd rn A B
def po_X3_workOutRuns : gt_X3_workOutRuns → List pz_V → pz_H → Option pz_V → pz_H → Prop := fun ((_, fd, _), u, (La, Ra, Rd), (wd, n, _, _), (f1, f2, f3), (dl, ll), (_, Z, _, _)) _ g v g' => v = none ∧ hg (lnSc u) g g' ∧ ∃ rn A B, lnT g' u La Ra Rd rn A B ∧ (∀ i, i < 13 → rn i = dw_run wd dl (fd + nI i)) ∧ ∀ i, i < 13 → rn i = 1 → ∀ k, k < n → A i k = f2 k + wt_s (fd + nI i) ll f1 Z k ∧ B i k = f3 k + wt_s (fd + nI i) ll f1 Z k
theorem dw_run_01 {wd : Int32} {l : List (Int32 × Int32)} (h : ∀ q ∈ l, q.2 = 0 ∨ q.2 = 1) (d : Int32) : dw_run wd l d = 0 ∨ dw_run wd l d = 1 := by
  unfold dw_run
  split
  · exact Or.inl rfl
  · cases hx : dw_get l d with
    | some x => exact dw_get_01 h hx
    | none =>
      simp only
      split
      · exact Or.inr rfl
      · exact Or.inl rfl
theorem nar_01 {x : Int32} (h : x = 0 ∨ x = 1) : vp_nar .boolean x = x := by
  rcases h with rfl | rfl <;> rfl
set_option maxRecDepth 20000 in
set_option maxHeartbeats 4000000 in
theorem ct_X3_workOutRuns {G : pz_Gx} (hOk : pz_OK G) (gh : gt_X3_workOutRuns) : pz_M G yX3_workOutRuns cX3_workOutRuns 4 none rm_X3_workOutRuns (pr_X3_workOutRuns gh) (po_X3_workOutRuns gh) := by
  obtain ⟨⟨h, fd, pa⟩, u, ⟨La, Ra, Rd⟩, ⟨wd, n, dw, lw⟩, ⟨f1, f2, f3⟩, ⟨dl, ll⟩, fp, Z, N, C⟩ := gh
  refine pz_ofZ (by decide) hOk.1 (Or.inl rfl) ?_ ?_
  · rintro av g ⟨rfl, -⟩
    exact Nat.le_of_ble_eq_true rfl
  · rintro X hX hGX hrm - av g ⟨rfl, hn, hL, hdw, h01, hlt, hst, hpl, hpS, rn0, A0, B0, hT0⟩ hR
    have loop : ∀ (m k : Nat) (rn : Nat → Int32) (A B : Nat → Nat → Int32) (gk : pz_H), k + m = 13 → hg (lnSc u) g gk → lnT gk u La Ra Rd rn A B → (∀ i, i < k → rn i = dw_run wd dl (fd + nI i)) → (∀ i, i < k → rn i = 1 → ∀ j, j < n → A i j = f2 j + wt_s (fd + nI i) ll f1 Z j ∧ B i j = f3 j + wt_s (fd + nI i) ll f1 Z j) → pz_Z X 4 2 [(3, .inl (nI k)), (0, .inr (.inr (some h))), (1, .inl fd), (2, .inr (.inr (some pa)))] [] gk 0 0 := by
      intro m
      induction m with
      | zero =>
        intro k rn A B gk hk hS hT hr hab
        obtain rfl : k = 13 := by omega
        refine bX3_workOutRuns_2 hX _ _ _ _ _ ⟨fun _ => ?_, fun q => absurd (show (13 : Int32) ≤ nI 13 by decide) q⟩
        exact bX3_workOutRuns_45 hX hR _ _ _ _ _ ⟨Nat.le_refl _, Nat.le_refl _, rfl, hS, rn, A, B, hT, hr, hab⟩
      | succ m ih =>
        intro k rn A B gk hk hS hT hr hab
        have hL' := lnH_mono hS (by simp [lnSc]) hL
        have hdw' := dw_mono hS (by simp [lnSc]) _ _ hdw
        have hlt' := lt_mono hS (by simp [lnSc]) _ _ hlt
        have hpS' := plS_mono hS (by simp [lnSc]) hpS
        obtain ⟨t7, tA, tB, lbf, t10⟩ := hT
        have hki : vp_in (nI k) 13 := ni_in (by omega) (by omega)
        have hkc : (nI k).toNatClampNeg = k := ni_cl (by omega)
        refine bX3_workOutRuns_2 hX _ _ _ _ _ ⟨fun q => absurd ((ni_le (a := 13) (by omega) (by omega)).mp q) (by omega), fun _ => ?_⟩
        refine bX3_workOutRuns_8 hX _ _ _ _ _ ⟨_, _, _, hL'.1, rfl, ?_⟩
        refine bX3_workOutRuns_17 hX hrm hGX hOk (h, fd + nI k, u, wd, dl) (by decide) _ _ _ _ _ ⟨Nat.le_of_ble_eq_true rfl, ⟨h, [.inl (fd + nI k)], [30, u], _, rfl, hL'.1⟩, Nat.le_of_ble_eq_true rfl, Nat.le_of_ble_eq_true rfl, Nat.le_of_ble_eq_true rfl, ⟨rfl, h01, [30, u], _, dw, hL'.1, rfl, rfl, hdw'⟩, ?_⟩
        rintro v g' ⟨rfl, rfl⟩ x hx -
        cases hx
        have hL1 := lnH_mono (hg_up (S := lnSc u) (v := some ([34, u], ar_z 13 (upd rn k (dw_run wd dl (fd + nI k))))) hg_rf t7 (Or.inl rfl)) (by simp [lnSc]) hL'
        refine ⟨_, _, _, t7, hki, ?_⟩
        rw [hkc, nar_01 (dw_run_01 h01 _)]
        refine ⟨_, _, _, hL1.1, rfl, _, _, _, up_at, hki, ?_⟩
        rw [hkc, pk_us]
        have hS1 := hg_up (v := some ([34, u], ar_z 13 (upd rn k (dw_run wd dl (fd + nI k))))) hS t7 (Or.inl rfl)
        have tA1 : ∀ i, i < 13 → va_up g' (La 7) (some ([34, u], ar_z 13 (upd rn k (dw_run wd dl (fd + nI k))))) (Ra i) = some ([36, u, i], ar_i 12 (A i)) := fun i hi => up_ne (tA i hi) t7 (by simp)
        have tB1 : ∀ i, i < 13 → va_up g' (La 7) (some ([34, u], ar_z 13 (upd rn k (dw_run wd dl (fd + nI k))))) (Rd i) = some ([38, u, i], ar_i 12 (B i)) := fun i hi => up_ne (tB i hi) t7 (by simp)
        have t101 := up_ne (v := some ([34, u], ar_z 13 (upd rn k (dw_run wd dl (fd + nI k))))) t10 t7 (by simp)
        refine ⟨fun q => ?_, fun q => ?_⟩
        · refine bX3_workOutRuns_39 hX _ _ _ _ _ ?_
          refine pz_lsub (lv' := [(3, .inl (nI (k + 1))), (0, .inr (.inr (some h))), (1, .inl fd), (2, .inr (.inr (some pa)))]) ⟨ni_inc, rfl, rfl, rfl, trivial⟩ ?_
          refine ih (k + 1) (upd rn k (dw_run wd dl (fd + nI k))) A B _ (by omega) hS1 ⟨up_at, tA1, tB1, lbf, t101⟩ (fun i hi => ?_) (fun i hi h1 => ?_)
          · by_cases hik : i = k
            · subst hik; exact pk_us
            · rw [pk_un hik]; exact hr i (by omega)
          · by_cases hik : i = k
            · subst hik; rw [pk_us, q] at h1; exact absurd h1 (by decide)
            · rw [pk_un hik] at h1; exact hab i (by omega) h1
        · refine bX3_workOutRuns_30 hX _ _ _ _ _ ?_
          refine bX3_workOutRuns_36 hX hrm hGX hOk ((h, k, fd + nI k, pa), u, (La, Ra, Rd), (wd, n, dw, lw), (f1, f2, f3), ll, (fp, Z, N, C)) (by decide) _ _ _ _ _ ⟨Nat.le_of_ble_eq_true rfl, ⟨h, [.inl (nI k), .inl (fd + nI k), .inr (.inr (some pa))], [30, u], _, rfl, hL1.1⟩, Nat.le_of_ble_eq_true rfl, Nat.le_of_ble_eq_true rfl, Nat.le_of_ble_eq_true rfl, ⟨rfl, by omega, hn, hL1, lt_mono hS1 (by simp [lnSc]) _ _ hlt, hst, hpl, plS_mono hS1 (by simp [lnSc]) hpS, ⟨_, tA1 k (by omega)⟩, ⟨_, tB1 k (by omega)⟩, _, t101⟩, ?_⟩
          rintro v g2 ⟨rfl, hS2, ⟨A2, hA2, eA⟩, ⟨B2, hB2, eB⟩, lb2, hlb2⟩ _
          refine bX3_workOutRuns_39 hX _ _ _ _ _ ?_
          refine pz_lsub (lv' := [(3, .inl (nI (k + 1))), (0, .inr (.inr (some h))), (1, .inl fd), (2, .inr (.inr (some pa)))]) ⟨ni_inc, rfl, rfl, rfl, trivial⟩ ?_
          refine ih (k + 1) (upd rn k (dw_run wd dl (fd + nI k))) (fun i => if i = k then A2 else A i) (fun i => if i = k then B2 else B i) _ (by omega) (hg_tr hS1 (hg_mono hS2 (fun b hb => ?_))) ⟨hS2 _ _ _ up_at (by simp), fun i hi => ?_, fun i hi => ?_, lb2, hlb2⟩ (fun i hi => ?_) (fun i hi h1 => ?_)
          · rcases hb with rfl | rfl | rfl
            · exact Or.inr (Or.inl ⟨_, rfl⟩)
            · exact Or.inr (Or.inr (Or.inl ⟨_, rfl⟩))
            · exact Or.inr (Or.inr (Or.inr rfl))
          · by_cases hik : i = k
            · subst hik; simp only [if_pos]; exact hA2
            · simp only [if_neg hik]; exact hS2 _ _ _ (tA1 i hi) (by simp [hik])
          · by_cases hik : i = k
            · subst hik; simp only [if_pos]; exact hB2
            · simp only [if_neg hik]; exact hS2 _ _ _ (tB1 i hi) (by simp [hik])
          · by_cases hik : i = k
            · subst hik; exact pk_us
            · rw [pk_un hik]; exact hr i (by omega)
          · by_cases hik : i = k
            · subst hik
              intro j hj
              simp only [if_pos]
              exact ⟨eA j hj, eB j hj⟩
            · simp only [if_neg hik]
              rw [pk_un hik] at h1
              exact hab i (by omega) h1
    refine bX3_workOutRuns_0 hX _ _ _ _ _ ?_
    exact loop 13 0 rn0 A0 B0 g (by omega) hg_rf hT0 (fun i hi => absurd hi (Nat.not_lt_zero i)) (fun i hi => absurd hi (Nat.not_lt_zero i))
