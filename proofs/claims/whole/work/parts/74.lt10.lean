/-! LineTimes: next -/
theorem nlE_w {g g' : pz_H} {S : List Nat → Prop} (hh : hg S g g') {la sa nl U : Nat} {L : Nat → lr_T} (h0 : ¬ S [5] ∧ ¬ S [6] ∧ ¬ S [50]) (hS : ∀ u, (¬ S [30, u] ∧ ¬ S [31, u] ∧ ¬ S [32, u] ∧ ¬ S [33, u] ∧ ¬ S [35, u] ∧ ¬ S [37, u]) ∧ (∀ d, ¬ S [40, u, d]) ∧ ¬ S [41, u]) (hT : ∀ i, i < nl → ∃ rn A B, lrT g' (L i) rn A B) (h : nlE g la sa nl L U) : nlE g' la sa nl L U := by
  obtain ⟨h1, h2, h3, h4⟩ := h
  exact ⟨h1, lsE_mono hh h0 h2, fun i hi => ⟨lrOK_mono hh (L i) (hS _) (h3 i hi).1, hT i hi, (h3 i hi).2.2⟩, h4⟩
theorem b32_nI {i : Int32} {b : Nat} (hb : b < 2147483648) (h : ¬ bdR i.toInt64 0 (lN b)) : ∃ k, k ≤ b ∧ i = nI k := by
  have hb' : ¬ (i.toInt64 < 0 ∨ lN b < i.toInt64) := h
  rw [i6_lt, i6_lt, Int32.toInt_toInt64, show (0 : Int64).toInt = 0 from rfl, lN_toInt (by omega)] at hb'
  obtain ⟨x, hx, e⟩ := nI_of (x := i) (by rw [i3_lt, show (0 : Int32).toInt = 0 from rfl]; omega)
  refine ⟨x, ?_, e⟩
  rw [e, nI_toInt hx] at hb'
  omega
set_option maxRecDepth 20000 in
theorem bX9_next_0 {X : pz_C} (hX : pz_X X cX9_next 6 RX9) : ∀ lv st g c s, (zo_il 1 1 (zo_il 1 2 (zo_ll 1 3 (pz_Z X 6)))) 0 lv st g c s → pz_Z X 6 0 lv st g c s := (zs_iload_n hX dX9_next_0 rfl (zs_iload_n hX dX9_next_1 rfl (zs_lload_n hX dX9_next_2 rfl (fun _ _ _ _ _ h => h))))
set_option maxRecDepth 20000 in
theorem bX9_next_3 {X : pz_C} {G : pz_Gx} {sa md mi : Nat} {PX : String → pz_H → Prop} {rm : Room} (hX : pz_X X cX9_next 6 RX9) (hrm : pz_rm X = rm) (hGX : pz_GX X G) (hOk : pz_O3 G sa md mi) (hT : pz_Te X 6 rm PX) (gh : gt_X9_requireJourney) (hr_X9_requireJourney : rm_X9_requireJourney.frames + 1 ≤ rm.frames ∧ 8 + (4 + 11) + rm_X9_requireJourney.locals ≤ rm.locals) : ∀ lv st g c s, (zo_csX rm 3 3 rm_X9_requireJourney.cells rm_X9_requireJourney.slots (pr_X9_requireJourney gh) (po_X9_requireJourney gh) (px_X9_requireJourney gh) (zo_te rm PX) (zo_kv (zo_il 2 5 (zo_i2l (zo_lc 1 (0) (zo_lc 3 (100) (pz_Z X 6))))))) 3 lv st g c s → pz_Z X 6 3 lv st g c s := by
  subst hrm
  exact (zs_csSX hX hGX (ct_X9_requireJourney hOk gh) mw_751171e0 mw_8a698b31 mw_8bb91264 mw_42fba559 (by decide +kernel) hr_X9_requireJourney dX9_next_3 (zs_te hT) (zs_kv (zs_iload hX dX9_next_6 (zs_i2l hX dX9_next_8 (zs_lconst hX dX9_next_9 (by decide) (zs_ldc2 hX dX9_next_10 mw_4cb44518 (fun _ _ _ _ _ h => h)))))))
set_option maxRecDepth 20000 in
theorem bX9_next_13 {X : pz_C} {G : pz_Gx} {sa md mi : Nat} {PX : String → pz_H → Prop} {rm : Room} (hX : pz_X X cX9_next 6 RX9) (hrm : pz_rm X = rm) (hGX : pz_GX X G) (hOk : pz_O3 G sa md mi) (hT : pz_Te X 6 rm PX) (gh : gt_X9_requireRange) (hr_X9_requireRange : rm_X9_requireRange.frames + 1 ≤ rm.frames ∧ 8 + (6 + 11) + rm_X9_requireRange.locals ≤ rm.locals) : ∀ lv st g c s, (zo_csX rm 3 3 rm_X9_requireRange.cells rm_X9_requireRange.slots (pr_X9_requireRange gh) (po_X9_requireRange gh) (px_X9_requireRange gh) (zo_te rm PX) (zo_kv (zo_al 1 0 (zo_get 11 2 (zo_il 2 5 (zo_ic 1 (1) (zo_iadd (pz_Z X 6)))))))) 13 lv st g c s → pz_Z X 6 13 lv st g c s := by
  subst hrm
  exact (zs_csSX hX hGX (ct_X9_requireRange hOk gh) mw_6378151b mw_14fb916b mw_8bb91264 mw_a40b3fa2 (by decide +kernel) hr_X9_requireRange dX9_next_13 (zs_te hT) (zs_kv (zs_aload_n hX dX9_next_16 rfl (zs_get hX (C := RX9) (T := TX9) (N := 7) rfl in_X9 (by decide) mw_58da1370 dX9_next_17 (zs_iload hX dX9_next_20 (zs_iconst hX dX9_next_22 (by decide) (zs_iadd hX dX9_next_23 (fun _ _ _ _ _ h => h))))))))
set_option maxRecDepth 20000 in
theorem bX9_next_24 {X : pz_C} {G : pz_Gx} {sa md mi : Nat} {rm : Room} (hX : pz_X X cX9_next 6 RX9) (hrm : pz_rm X = rm) (hGX : pz_GX X G) (hOk : pz_O3 G sa md mi) (gh : gt_X2_clear) (hr_X2_clear : rm_X2_clear.frames + 1 ≤ rm.frames ∧ 8 + (2 + 11) + rm_X2_clear.locals ≤ rm.locals) : ∀ lv st g c s, (zo_cV rm 4 1 3 rm_X2_clear.cells rm_X2_clear.slots (pr_X2_clear gh) (po_X2_clear gh) (zo_kv (zo_al 1 0 (zo_get 11 0 (zo_al 1 0 (zo_get 11 2 (zo_il 1 1 (zo_il 1 2 (zo_ll 1 3 (zo_l2i (pz_Z X 6))))))))))) 24 lv st g c s → pz_Z X 6 24 lv st g c s := by
  subst hrm
  exact (zs_csV hX hGX (C := RX2) (T := TX2) (N := 3) rfl (ct_X2_clear hOk.1.1 gh) mw_b6c3fae4 mw_2b05dfe6 mw_dca6164a mw_ee921776 mw_de06d67e (by decide +kernel) hr_X2_clear dX9_next_24 (zs_kv (zs_aload_n hX dX9_next_27 rfl (zs_get hX (C := RX9) (T := TX9) (N := 7) rfl in_X9 (by decide) mw_a7a80db5 dX9_next_28 (zs_aload_n hX dX9_next_31 rfl (zs_get hX (C := RX9) (T := TX9) (N := 7) rfl in_X9 (by decide) mw_58da1370 dX9_next_32 (zs_iload_n hX dX9_next_35 rfl (zs_iload_n hX dX9_next_36 rfl (zs_lload_n hX dX9_next_37 rfl (zs_l2i hX dX9_next_38 (fun _ _ _ _ _ h => h)))))))))))
set_option maxRecDepth 20000 in
theorem bX9_next_39 {X : pz_C} {G : pz_Gx} {sa md mi : Nat} {rm : Room} (hX : pz_X X cX9_next 6 RX9) (hrm : pz_rm X = rm) (hGX : pz_GX X G) (hOk : pz_O3 G sa md mi) (gh : gt_X4_gather) (hr_X4_gather : rm_X4_gather.frames + 1 ≤ rm.frames ∧ 8 + (8 + 11) + rm_X4_gather.locals ≤ rm.locals) : ∀ lv st g c s, (zo_cV rm 6 4 3 rm_X4_gather.cells rm_X4_gather.slots (pr_X4_gather gh) (po_X4_gather gh) (zo_kv (zo_il 2 5 (zo_al 1 0 (zo_get 11 2 (zo_get 4 1 (zo_ic_ge 67 (pz_Z X 6)))))))) 39 lv st g c s → pz_Z X 6 39 lv st g c s := by
  subst hrm
  exact (zs_csV hX hGX (C := RX4) (T := TX4) (N := 5) rfl (ct_X4_gather hOk.1.1 gh) mw_fa437fc2 mw_2a857356 mw_4974d551 mw_5ae0c28b mw_8f4a9da6 (by decide +kernel) hr_X4_gather dX9_next_39 (zs_kv (zs_iload hX dX9_next_42 (zs_aload_n hX dX9_next_44 rfl (zs_get hX (C := RX9) (T := TX9) (N := 7) rfl in_X9 (by decide) mw_58da1370 dX9_next_45 (zs_get hX (C := RX2) (T := TX2) (N := 3) rfl in_X2 (by decide) mw_b4a8eb27 dX9_next_48 (zs_ic_ge hX dX9_next_51 (by decide) (fun _ _ _ _ _ _ h => h))))))))
set_option maxRecDepth 20000 in
theorem bX9_next_54 {X : pz_C} (hX : pz_X X cX9_next 6 RX9) : ∀ lv st g c s, (zo_al 1 0 (zo_get 11 2 (zo_get 4 0 (zo_il 2 5 (zo_iald (zo_goto 68 (pz_Z X 6))))))) 54 lv st g c s → pz_Z X 6 54 lv st g c s := (zs_aload_n hX dX9_next_54 rfl (zs_get hX (C := RX9) (T := TX9) (N := 7) rfl in_X9 (by decide) mw_58da1370 dX9_next_55 (zs_get hX (C := RX2) (T := TX2) (N := 3) rfl in_X2 (by decide) mw_cb4b53a4 dX9_next_58 (zs_iload hX dX9_next_61 (zs_iald hX dX9_next_63 (zs_goto hX dX9_next_64 (by decide) (fun _ _ _ _ _ _ h => h)))))))
set_option maxRecDepth 20000 in
theorem bX9_next_67 {X : pz_C} (hX : pz_X X cX9_next 6 RX9) : ∀ lv st g c s, (zo_ic 1 (-1) (pz_Z X 6)) 67 lv st g c s → pz_Z X 6 67 lv st g c s := (zs_iconst hX dX9_next_67 (by decide) (fun _ _ _ _ _ h => h))
set_option maxRecDepth 20000 in
theorem bX9_next_68 {X : pz_C} {rm : Room} {E : Option pz_V → pz_H → Prop} (hX : pz_X X cX9_next 6 RX9) (hR : pz_Rt X cX9_next 6 (some .int) rm E) : ∀ lv st g c s, (zo_ri rm E) 68 lv st g c s → pz_Z X 6 68 lv st g c s := (zs_ri hR dX9_next_68)
def rm_X9_next : Room := { frames := 8, cells := 4, slots := 24, locals := 150 }
abbrev gt_X9_next : Type := (Nat × Int32 × Int32 × Int64 × Int32) × (Nat × Nat × Nat × Nat) × (Nat × Nat × Nat) × (Nat × Nat × Nat × Nat × Int32 × (Nat → Nat)) × (Nat × (Nat → lr_T) × Nat) × ((Nat → Nat) × (Nat → List (Int32 × Int32)) × (Nat → Int32) × (Nat → Int32)) × (Nat × Nat × Nat × (Nat → Int32))
def pr_X9_next (sa : Nat) : gt_X9_next → List pz_V → pz_H → Prop := fun ((h, a, b, t, i), (nt, wy, lv, tx), (ne, nz, nw), (la, pa, na, so, fd, Wa), (nl, L, U), (fp, Z, N, C), (ti, lc, lw, lf)) av g => av = [.inr (.inr (some (h))), .inl (a), .inl (b), .inr (.inl (t)), .inl (i)] ∧ ltS g h nt wy lv tx ne nz nw ∧ ntS g nt la pa na so fd Wa ∧ nlE g la sa nl L U ∧ plS g pa fp Z N C ∧ lvS g lv ti lc lw lf
def nxE (t : Int64) (i : Int32) : Prop := bdR t 0 1700000000 ∨ bdR i.toInt64 0 100
def jnI (a b : Int32) : Prop := bdI a 100 ∨ bdI b 100
def po_X9_next (sa : Nat) : gt_X9_next → List pz_V → pz_H → Option pz_V → pz_H → Prop := fun ((h, a, b, t, i), (nt, wy, lv, tx), (ne, nz, nw), (la, pa, na, so, fd, Wa), (nl, L, U), (fp, Z, N, C), (ti, lc, lw, lf)) _ g v g' => ¬ jnI a b ∧ ¬ nxE t i ∧ ∃ fr to T n, fr < 100 ∧ a = nI fr ∧ to < 100 ∧ b = nI to ∧ T ≤ 1700000000 ∧ t = lN T ∧ n ≤ 100 ∧ i = nI n ∧ v = some (.inl (if n < (ga_n L (nI T / 86400 - 3) Z (n + 1) fr to (nI T) (0, lf) nl).1 then (ga_n L (nI T / 86400 - 3) Z (n + 1) fr to (nI T) (0, lf) nl).2 n else -1)) ∧ hg gaSc g g' ∧ ntS g' nt la pa na so (nI T / 86400 - 3) Wa ∧ nlE g' la sa nl L U ∧ ∃ lc lw lf, lvS g' lv ti lc lw lf
def px_X9_next : gt_X9_next → List pz_V → pz_H → String → pz_H → Prop := fun ((h, a, b, t, i), _) _ g E g' => g' = g ∧ ((E = nIOB ∧ jnI a b) ∨ (E = nIAE ∧ ¬ jnI a b ∧ nxE t i))
set_option maxRecDepth 20000 in
set_option maxHeartbeats 4000000 in
theorem ct_X9_next {G : pz_Gx} {sa md mi : Nat} (hOk : pz_O3 G sa md mi) (gh : gt_X9_next) : pz_MX G yX9_next cX9_next 6 (some .int) rm_X9_next (pr_X9_next sa gh) (po_X9_next sa gh) (px_X9_next gh) := by
  obtain ⟨⟨h, a, b, t, i⟩, ⟨nt, wy, lv, tx⟩, ⟨ne, nz, nw⟩, ⟨la, pa, na, so, fd, Wa⟩, ⟨nl, L, U⟩, ⟨fp, Z, N, C⟩, ti, lc, lw, lf⟩ := gh
  refine pz_ofZX (by decide) hOk.1.1.1 (Or.inr (Or.inl rfl)) ?_ ?_
  · rintro av g ⟨rfl, -⟩
    exact Nat.le_of_ble_eq_true rfl
  · rintro X hX hGX hrm av g ⟨rfl, hlt, hnt, hnl, hpl, hlv⟩ hR hT -
    refine bX9_next_0 hX _ _ _ _ _ ?_
    refine bX9_next_3 hX hrm hGX hOk hT (a, b, t) (by decide) _ _ _ _ _ ⟨Nat.le_of_ble_eq_true rfl, Nat.le_of_ble_eq_true rfl, Nat.le_of_ble_eq_true rfl, Nat.le_of_ble_eq_true rfl, rfl, ?_, ?_⟩
    · rintro E g2 ⟨rfl, ⟨rfl, hb⟩ | ⟨rfl, h1, h2, h3⟩⟩
      · exact ⟨Nat.le_of_ble_eq_true rfl, Nat.le_of_ble_eq_true rfl, rfl, Or.inl ⟨rfl, hb⟩⟩
      · exact ⟨Nat.le_of_ble_eq_true rfl, Nat.le_of_ble_eq_true rfl, rfl, Or.inr ⟨rfl, fun e => (by rcases e with e | e; exact h1 e; exact h2 e), Or.inl h3⟩⟩
    rintro v g2 ⟨rfl, rfl, h1, h2, h3⟩ -
    have hJ : ¬ jnI a b := fun e => by rcases e with e | e; exact h1 e; exact h2 e
    refine bX9_next_13 hX hrm hGX hOk hT (i.toInt64, 0, 100) (by decide) _ _ _ _ _ ⟨Nat.le_of_ble_eq_true rfl, Nat.le_of_ble_eq_true rfl, Nat.le_of_ble_eq_true rfl, Nat.le_of_ble_eq_true rfl, rfl, ?_, ?_⟩
    · rintro E g2 ⟨rfl, rfl, hb⟩
      exact ⟨Nat.le_of_ble_eq_true rfl, Nat.le_of_ble_eq_true rfl, rfl, Or.inr ⟨rfl, hJ, Or.inr hb⟩⟩
    rintro v g3 ⟨rfl, rfl, h4⟩ -
    have hE : ¬ nxE t i := fun e => by rcases e with e | e; exact h3 e; exact h4 e
    obtain ⟨fr, hfr, rfl⟩ := bI_nI (b := 100) (by omega) h1
    obtain ⟨to, hto, rfl⟩ := bI_nI (b := 100) (by omega) h2
    obtain ⟨T, hT', rfl⟩ := bR_nI (b := 1700000000) (by omega) h3
    obtain ⟨n, hn, rfl⟩ := b32_nI (b := 100) (by omega) h4
    refine ⟨_, _, _, hlt, rfl, ?_⟩
    show pz_Z X 6 24 [(0, .inr (.inr (some (h)))), (1, .inl (nI fr)), (2, .inl (nI to)), (3, .inr (.inl (lN T))), (5, .inl (nI n))] [.inl (nI n + 1), .inr (.inr (some (lv)))] g3 4 24
    rw [nI_1]
    refine bX9_next_24 hX hrm hGX hOk ((lv, n + 1), ti, (nI lc, nI lw), lf) (by decide) _ _ _ _ _ ⟨Nat.le_of_ble_eq_true rfl, ⟨lv, [.inl (nI (n + 1))], [3], _, rfl, hlv.1⟩, Nat.le_of_ble_eq_true rfl, Nat.le_of_ble_eq_true rfl, Nat.le_of_ble_eq_true rfl, ⟨rfl, by omega, hlv.1, hlv.2⟩, ?_⟩
    rintro v g4 ⟨rfl, t4, hlv4⟩ -
    have hlt4 : ltS g4 h nt wy lv tx ne nz nw := t4 _ _ _ hlt (by simp)
    have hnt4 := ntS_mono t4 (by simp) hnt
    have hpl4 := plS_mono t4 (by simp) hpl
    have hnl4 := nlE_mono t4 (by simp) (fun u _ b hb x r e => by rw [hb] at e; injection e with _ e; injection e) hnl
    refine ⟨_, _, _, hlt4, rfl, _, _, _, hlt4, rfl, ?_⟩
    show pz_Z X 6 39 [(0, .inr (.inr (some (h)))), (1, .inl (nI fr)), (2, .inl (nI to)), (3, .inr (.inl (lN T))), (5, .inl (nI n))] [.inl ((lN T).toInt32), .inl (nI to), .inl (nI fr), .inr (.inr (some (lv))), .inr (.inr (some (nt)))] g4 4 24
    rw [lN_i]
    refine bX9_next_39 hX hrm hGX hOk ((nt, lv, fr, to, nI T), (la, pa, na, so), fd, Wa, (ti, 0, n + 1, lf), (nl, L), (fp, Z, N, C)) (by decide) _ _ _ _ _ ⟨Nat.le_of_ble_eq_true rfl, ⟨nt, [.inr (.inr (some (lv))), .inl (nI fr), .inl (nI to), .inl (nI T)], [1], _, rfl, hnt4.1⟩, Nat.le_of_ble_eq_true rfl, Nat.le_of_ble_eq_true rfl, Nat.le_of_ble_eq_true rfl, ⟨rfl, hnt4, nlE_S hnl4, fun i hi => (hnl4.2.2.1 i hi).2.1, hpl4, by omega, by omega, hlv4⟩, ?_⟩
    rintro v g5 ⟨rfl, t5, hnt5, hW5, hlv5, hle⟩ -
    have hlt5 : ltS g5 h nt wy lv tx ne nz nw := t5 _ _ _ hlt4 (by simp [gaSc, lnSc])
    have hnl5 := nlE_w t5 (by simp [gaSc, lnSc]) (by simp [gaSc, lnSc]) (fun i hi => by obtain ⟨rn, A, B, w, _⟩ := hW5 i hi; exact ⟨rn, A, B, w⟩) hnl4
    have TT : hg gaSc g3 g5 := hg_tr (hg_mono t4 (fun b hb => Or.inr (Or.inr (Or.inl hb)))) t5
    generalize hga : ga_n L (nI T / 86400 - 3) Z (n + 1) fr to (nI T) (0, lf) nl = ga at hlv5 hle
    have fin : ∀ y : Int32, y = (if n < ga.1 then ga.2 n else -1) → pz_Z X 6 68 [(0, .inr (.inr (some (h)))), (1, .inl (nI fr)), (2, .inl (nI to)), (3, .inr (.inl (lN T))), (5, .inl (nI n))] [.inl (y)] g5 4 24 := by
      intro y hy
      refine bX9_next_68 hX hR _ _ _ _ _ ⟨Nat.le_of_ble_eq_true rfl, Nat.le_of_ble_eq_true rfl, hJ, hE, fr, to, T, n, hfr, rfl, hto, rfl, hT', rfl, hn, rfl, ?_, TT, hnt5, hnl5, _, _, _, hlv5⟩
      rw [hga, hy]
    refine ⟨_, _, _, hlt5, rfl, _, _, _, hlv5.1, rfl, fun q => ?_, fun q => ?_⟩
    · have := (ni_le (by omega) (by omega)).mp q
      refine bX9_next_67 hX _ _ _ _ _ (fin (-1) ?_)
      rw [if_neg (by omega)]
    · have hlt' : n < ga.1 := Nat.lt_of_not_le (fun e => q ((ni_le (by omega) (by omega)).mpr e))
      refine bX9_next_54 hX _ _ _ _ _ ⟨_, _, _, hlt5, rfl, _, _, _, hlv5.1, rfl, _, _, _, hlv5.2, ni_in (by omega) (by omega), ?_⟩
      refine fin _ ?_
      rw [if_pos hlt', ni_cl (by omega)]
