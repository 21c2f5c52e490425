/-! LineTimes$Text: parseStop -/
theorem nu_ok {n : Nat} {f : Nat → Int32} {lo hi : Int32} {s : Nat × Int32} (ha : s.1 ≤ 1000000) (h : (tx_nu n f lo hi s).1.2 = -1) : s.2 = -1 ∧ lo ≤ (tx_nu n f lo hi s).2 ∧ (tx_nu n f lo hi s).2 ≤ hi := by
  obtain ⟨a, b⟩ := s
  unfold tx_nu at h ⊢
  dsimp only at ha h ⊢
  by_cases hb : b = -1
  · rw [if_pos hb] at h ⊢
    dsimp only at h ⊢
    refine ⟨hb, ?_, ?_⟩
    · refine Classical.byContradiction fun e => ?_
      rw [if_pos (Or.inr (Or.inl (Int32.not_le.mp e)))] at h
      exact nI_nm ha h
    · refine Classical.byContradiction fun e => ?_
      rw [if_pos (Or.inr (Or.inr (Int32.not_le.mp e)))] at h
      exact nI_nm ha h
  · rw [if_neg hb] at h
    exact absurd h hb
set_option maxRecDepth 20000 in
theorem bX6_parseStop_0 {X : pz_C} (hX : pz_X X cX6_parseStop 5 RX6) : ∀ lv st g c s, (zo_al 1 0 (zo_ic 1 (0) (zo_ic 2 (99) (pz_Z X 5)))) 0 lv st g c s → pz_Z X 5 0 lv st g c s := (zs_aload_n hX dX6_parseStop_0 rfl (zs_iconst hX dX6_parseStop_1 (by decide) (zs_bipush hX dX6_parseStop_2 (by decide) (fun _ _ _ _ _ h => h))))
set_option maxRecDepth 20000 in
theorem bX6_parseStop_4 {X : pz_C} {G : pz_Gx} {rm : Room} (hX : pz_X X cX6_parseStop 5 RX6) (hrm : pz_rm X = rm) (hGX : pz_GX X G) (hOk : pz_OK G) (gh : gt_X6_parseNumber) (hr_X6_parseNumber : rm_X6_parseNumber.frames + 1 ≤ rm.frames ∧ 8 + (5 + 11) + rm_X6_parseNumber.locals ≤ rm.locals) : ∀ lv st g c s, (zo_cV rm 8 2 3 rm_X6_parseNumber.cells rm_X6_parseNumber.slots (pr_X6_parseNumber gh) (po_X6_parseNumber gh) (zo_ki (zo_is 1 2 (zo_al 1 0 (zo_ic 2 (32) (pz_Z X 5)))))) 4 lv st g c s → pz_Z X 5 4 lv st g c s := by
  subst hrm
  exact (zs_csV hX hGX (C := RX6) (T := TX6) (N := 6) rfl (ct_X6_parseNumber hOk gh) mw_7360403f mw_283d2462 mw_ecfa4db1 mw_59af5b5a mw_5fc2b268 (by decide +kernel) hr_X6_parseNumber dX6_parseStop_4 (zs_ki (zs_istore_n hX dX6_parseStop_7 rfl (by decide) (zs_aload_n hX dX6_parseStop_8 rfl (zs_bipush hX dX6_parseStop_9 (by decide) (fun _ _ _ _ _ h => h))))))
set_option maxRecDepth 20000 in
theorem bX6_parseStop_11 {X : pz_C} {G : pz_Gx} {rm : Room} (hX : pz_X X cX6_parseStop 5 RX6) (hrm : pz_rm X = rm) (hGX : pz_GX X G) (hOk : pz_OK G) (gh : gt_X6_parseSign) (hr_X6_parseSign : rm_X6_parseSign.frames + 1 ≤ rm.frames ∧ 8 + (2 + 11) + rm_X6_parseSign.locals ≤ rm.locals) : ∀ lv st g c s, (zo_cV rm 8 1 3 rm_X6_parseSign.cells rm_X6_parseSign.slots (pr_X6_parseSign gh) (po_X6_parseSign gh) (zo_kv (zo_al 1 0 (zo_al 1 1 (pz_Z X 5))))) 11 lv st g c s → pz_Z X 5 11 lv st g c s := by
  subst hrm
  exact (zs_csV hX hGX (C := RX6) (T := TX6) (N := 6) rfl (ct_X6_parseSign hOk gh) mw_1fe06e7f mw_5172d50a mw_883123ce mw_59af5b5a mw_efb32b27 (by decide +kernel) hr_X6_parseSign dX6_parseStop_11 (zs_kv (zs_aload_n hX dX6_parseStop_14 rfl (zs_aload_n hX dX6_parseStop_15 rfl (fun _ _ _ _ _ h => h)))))
set_option maxRecDepth 20000 in
theorem bX6_parseStop_16 {X : pz_C} {G : pz_Gx} {rm : Room} (hX : pz_X X cX6_parseStop 5 RX6) (hrm : pz_rm X = rm) (hGX : pz_GX X G) (hOk : pz_OK G) (gh : gt_X3_lastLeaving) (hr_X3_lastLeaving : rm_X3_lastLeaving.frames + 1 ≤ rm.frames ∧ 8 + (1 + 11) + rm_X3_lastLeaving.locals ≤ rm.locals) : ∀ lv st g c s, (zo_cV rm 5 0 3 rm_X3_lastLeaving.cells rm_X3_lastLeaving.slots (pr_X3_lastLeaving gh) (po_X3_lastLeaving gh) (zo_ki (zo_ic 2 (259200) (pz_Z X 5)))) 16 lv st g c s → pz_Z X 5 16 lv st g c s := by
  subst hrm
  exact (zs_csV hX hGX (C := RX3) (T := TX3) (N := 11) rfl (ct_X3_lastLeaving hOk gh) mw_4fe64430 mw_8b5f5627 mw_8e6a40fb mw_ad64dfa1 mw_e5375cfa (by decide +kernel) hr_X3_lastLeaving dX6_parseStop_16 (zs_ki (zs_ldc hX dX6_parseStop_19 mw_a27bc279 (fun _ _ _ _ _ h => h))))
set_option maxRecDepth 20000 in
theorem bX6_parseStop_21 {X : pz_C} {G : pz_Gx} {rm : Room} (hX : pz_X X cX6_parseStop 5 RX6) (hrm : pz_rm X = rm) (hGX : pz_GX X G) (hOk : pz_OK G) (gh : gt_X6_parseNumber) (hr_X6_parseNumber : rm_X6_parseNumber.frames + 1 ≤ rm.frames ∧ 8 + (5 + 11) + rm_X6_parseNumber.locals ≤ rm.locals) : ∀ lv st g c s, (zo_cV rm 8 2 3 rm_X6_parseNumber.cells rm_X6_parseNumber.slots (pr_X6_parseNumber gh) (po_X6_parseNumber gh) (zo_ki (zo_is 1 3 (zo_al 1 0 (zo_ic 2 (32) (pz_Z X 5)))))) 21 lv st g c s → pz_Z X 5 21 lv st g c s := by
  subst hrm
  exact (zs_csV hX hGX (C := RX6) (T := TX6) (N := 6) rfl (ct_X6_parseNumber hOk gh) mw_7360403f mw_283d2462 mw_ecfa4db1 mw_59af5b5a mw_5fc2b268 (by decide +kernel) hr_X6_parseNumber dX6_parseStop_21 (zs_ki (zs_istore_n hX dX6_parseStop_24 rfl (by decide) (zs_aload_n hX dX6_parseStop_25 rfl (zs_bipush hX dX6_parseStop_26 (by decide) (fun _ _ _ _ _ h => h))))))
set_option maxRecDepth 20000 in
theorem bX6_parseStop_28 {X : pz_C} {G : pz_Gx} {rm : Room} (hX : pz_X X cX6_parseStop 5 RX6) (hrm : pz_rm X = rm) (hGX : pz_GX X G) (hOk : pz_OK G) (gh : gt_X6_parseSign) (hr_X6_parseSign : rm_X6_parseSign.frames + 1 ≤ rm.frames ∧ 8 + (2 + 11) + rm_X6_parseSign.locals ≤ rm.locals) : ∀ lv st g c s, (zo_cV rm 8 1 3 rm_X6_parseSign.cells rm_X6_parseSign.slots (pr_X6_parseSign gh) (po_X6_parseSign gh) (zo_kv (zo_al 1 0 (zo_il 1 3 (zo_ic 2 (259200) (pz_Z X 5)))))) 28 lv st g c s → pz_Z X 5 28 lv st g c s := by
  subst hrm
  exact (zs_csV hX hGX (C := RX6) (T := TX6) (N := 6) rfl (ct_X6_parseSign hOk gh) mw_1fe06e7f mw_5172d50a mw_883123ce mw_59af5b5a mw_efb32b27 (by decide +kernel) hr_X6_parseSign dX6_parseStop_28 (zs_kv (zs_aload_n hX dX6_parseStop_31 rfl (zs_iload_n hX dX6_parseStop_32 rfl (zs_ldc hX dX6_parseStop_33 mw_a27bc279 (fun _ _ _ _ _ h => h))))))
set_option maxRecDepth 20000 in
theorem bX6_parseStop_35 {X : pz_C} {G : pz_Gx} {rm : Room} (hX : pz_X X cX6_parseStop 5 RX6) (hrm : pz_rm X = rm) (hGX : pz_GX X G) (hOk : pz_OK G) (gh : gt_X6_parseNumber) (hr_X6_parseNumber : rm_X6_parseNumber.frames + 1 ≤ rm.frames ∧ 8 + (5 + 11) + rm_X6_parseNumber.locals ≤ rm.locals) : ∀ lv st g c s, (zo_cV rm 8 2 3 rm_X6_parseNumber.cells rm_X6_parseNumber.slots (pr_X6_parseNumber gh) (po_X6_parseNumber gh) (zo_ki (zo_is 2 4 (zo_al 1 0 (zo_get 8 4 (zo_ic 1 (-1) (zo_ic_ne 56 (pz_Z X 5)))))))) 35 lv st g c s → pz_Z X 5 35 lv st g c s := by
  subst hrm
  exact (zs_csV hX hGX (C := RX6) (T := TX6) (N := 6) rfl (ct_X6_parseNumber hOk gh) mw_7360403f mw_283d2462 mw_ecfa4db1 mw_59af5b5a mw_5fc2b268 (by decide +kernel) hr_X6_parseNumber dX6_parseStop_35 (zs_ki (zs_istore hX dX6_parseStop_38 (by decide) (zs_aload_n hX dX6_parseStop_40 rfl (zs_get hX (C := RX6) (T := TX6) (N := 6) rfl in_X6 (by decide) mw_f486a86b dX6_parseStop_41 (zs_iconst hX dX6_parseStop_44 (by decide) (zs_ic_ne hX dX6_parseStop_45 (by decide) (fun _ _ _ _ _ _ h => h))))))))
set_option maxRecDepth 20000 in
theorem bX6_parseStop_48 {X : pz_C} (hX : pz_X X cX6_parseStop 5 RX6) : ∀ lv st g c s, (zo_al 1 1 (zo_il 1 2 (zo_il 1 3 (zo_il 2 4 (pz_Z X 5))))) 48 lv st g c s → pz_Z X 5 48 lv st g c s := (zs_aload_n hX dX6_parseStop_48 rfl (zs_iload_n hX dX6_parseStop_49 rfl (zs_iload_n hX dX6_parseStop_50 rfl (zs_iload hX dX6_parseStop_51 (fun _ _ _ _ _ h => h)))))
set_option maxRecDepth 20000 in
theorem bX6_parseStop_53 {X : pz_C} {G : pz_Gx} {rm : Room} (hX : pz_X X cX6_parseStop 5 RX6) (hrm : pz_rm X = rm) (hGX : pz_GX X G) (hOk : pz_OK G) (gh : gt_X3_addStop) (hr_X3_addStop : rm_X3_addStop.frames + 1 ≤ rm.frames ∧ 8 + (4 + 11) + rm_X3_addStop.locals ≤ rm.locals) : ∀ lv st g c s, (zo_cV rm 5 3 3 rm_X3_addStop.cells rm_X3_addStop.slots (pr_X3_addStop gh) (po_X3_addStop gh) (zo_kv (pz_Z X 5))) 53 lv st g c s → pz_Z X 5 53 lv st g c s := by
  subst hrm
  exact (zs_csV hX hGX (C := RX3) (T := TX3) (N := 11) rfl (ct_X3_addStop hOk gh) mw_1a0cdae5 mw_d9f351e1 mw_816b5e1b mw_ad64dfa1 mw_6ada0a91 (by decide +kernel) hr_X3_addStop dX6_parseStop_53 (zs_kv (fun _ _ _ _ _ h => h)))
set_option maxRecDepth 20000 in
theorem bX6_parseStop_56 {X : pz_C} {rm : Room} {E : Option pz_V → pz_H → Prop} (hX : pz_X X cX6_parseStop 5 RX6) (hR : pz_Rt X cX6_parseStop 5 none rm E) : ∀ lv st g c s, (zo_rv rm E) 56 lv st g c s → pz_Z X 5 56 lv st g c s := (zs_rv hR dX6_parseStop_56)
def rm_X6_parseStop : Room := { frames := 2, cells := 0, slots := 0, locals := 45 }
abbrev gt_X6_parseStop : Type := Nat × (Nat × Nat × Nat × Nat) × (Int32 × Int32) × (Nat → Int32) × (Nat × (Nat → lr_T) × (Nat → cl_D)) × Nat × Nat × Nat
def pr_X6_parseStop : gt_X6_parseStop → List pz_V → pz_H → Prop := fun (tx, (cm, sg, len, at'), (fa, ro), cf, (m, K, D), U0, U, sa) av g => av = [.inr (.inr (some (tx))), .inr (.inr (some (lr_h (K (m - 1)))))] ∧ 0 < m ∧ (D (m - 1)).2.1 < 12 ∧ tpS sa g (tx, (cm, sg, len, at'), (fa, ro), cf, (m, K, D), U0, U)
def po_X6_parseStop : gt_X6_parseStop → List pz_V → pz_H → Option pz_V → pz_H → Prop := fun (tx, (cm, sg, len, at'), (fa, ro), cf, (m, K, D), U0, U, sa) _ g v g' => v = none ∧ tpP sa g g' (tp_S len cf ((at', fa), m, D)) (tx, (cm, sg, len, at'), (fa, ro), cf, (m, K, D), U0, U)
set_option maxRecDepth 20000 in
set_option maxHeartbeats 8000000 in
theorem ct_X6_parseStop {G : pz_Gx} (hOk : pz_OK G) (gh : gt_X6_parseStop) : pz_M G yX6_parseStop cX6_parseStop 5 none rm_X6_parseStop (pr_X6_parseStop gh) (po_X6_parseStop gh) := by
  obtain ⟨tx, ⟨cm, sg, len, at'⟩, ⟨fa, ro⟩, cf, ⟨m, K, D⟩, U0, U, sa⟩ := gh
  refine pz_ofZ (by decide) hOk.1 (Or.inl rfl) ?_ ?_
  · rintro av g ⟨rfl, -⟩
    exact Nat.le_of_ble_eq_true rfl
  · rintro X hX hGX hrm - av g ⟨rfl, hm, hn12, hts, hlen, hat, hU, hcm⟩ hR
    have hkm := hcm.2.1 (m - 1) (by omega)
    rcases hKm : K (m - 1) with ⟨⟨u, h⟩, ⟨La, Ra, Rd⟩, ⟨wd, n, dw, lw⟩, ⟨f1, f2, f3⟩, ⟨dl, ll⟩⟩
    rcases hDm : D (m - 1) with ⟨wd', n', e1, e2, e3⟩
    rw [hKm, hDm] at hkm
    obtain ⟨hlo, ⟨rn, A, B, hlt⟩, hck, hu0, huU⟩ := hkm
    obtain ⟨k1, k2, k3, k4, k5⟩ := hck
    dsimp only at k1 k3 k4 k5
    have k2' : n = n' := k2
    subst k1 k2'
    injection k3 with k3a k3b
    injection k3b with k3b k3c
    subst k3a k3b k3c
    injection k4 with k4a k4b
    injection k5 with k5a k5b
    subst k4a k4b k5a k5b
    rw [hDm] at hn12
    dsimp only at hn12
    obtain ⟨hn, ⟨c0, c1, c2, c3, c8, c9⟩, d1, d2, d3, d4, d5⟩ := id hlo
    -- the text changes, nothing else
    have n4 : ∀ b : List Nat, b ≠ [4] → ¬ b = [4] := fun b h => h
    refine bX6_parseStop_0 hX _ _ _ _ _ ?_
    refine bX6_parseStop_4 hX hrm hGX hOk ((tx, 0, 99), (cm, sg, len, at'), (fa, ro), cf) (by decide) _ _ _ _ _ ⟨Nat.le_of_ble_eq_true rfl, ⟨tx, [.inl (0), .inl (99)], [4], _, rfl, hts.1⟩, Nat.le_of_ble_eq_true rfl, Nat.le_of_ble_eq_true rfl, Nat.le_of_ble_eq_true rfl, ⟨rfl, hlen, hat, hts⟩, ?_⟩
    rintro v g1 ⟨rfl, h1, t1⟩ z hz
    cases hz
    have m1 := nu_mv (f := cf) (lo := 0) (hi := 99) (s := (at', fa)) hat
    have o1 := fun h => nu_ok (n := len) (f := cf) (lo := 0) (hi := 99) (s := (at', fa)) (by dsimp only; omega) h
    have E1 : tp_1 len cf (at', fa) = tx_nu len cf 0 99 (at', fa) := by unfold tp_1; rfl
    have E3 : tp_3 len cf (cl_ll (D (m - 1))) (at', fa) = tx_nu len cf (cl_ll (D (m - 1))) 259200 (tx_sg len cf 32 (tp_1 len cf (at', fa)).1) := by unfold tp_3; rfl
    have E5 : tp_5 len cf (cl_ll (D (m - 1))) (at', fa) = tx_nu len cf (tp_3 len cf (cl_ll (D (m - 1))) (at', fa)).2 259200 (tx_sg len cf 32 (tp_3 len cf (cl_ll (D (m - 1))) (at', fa)).1) := by unfold tp_5; rfl
    have ES : tp_S len cf ((at', fa), m, D) = ((tp_5 len cf (cl_ll (D (m - 1))) (at', fa)).1, m, if (tp_5 len cf (cl_ll (D (m - 1))) (at', fa)).1.2 = -1 then clU D (m - 1) (cl_st (tp_1 len cf (at', fa)).2 (tp_3 len cf (cl_ll (D (m - 1))) (at', fa)).2 (tp_5 len cf (cl_ll (D (m - 1))) (at', fa)).2 (D (m - 1))) else D) := by unfold tp_S; rfl
    rw [← E1] at m1 t1 o1 ⊢
    generalize tp_1 len cf (at', fa) = s1 at *
    have elo : cl_ll (D (m - 1)) = if n = 0 then 0 else f3 (n - 1) := by rw [hDm]; rfl
    generalize hloE : cl_ll (D (m - 1)) = lo at *
    refine bX6_parseStop_11 hX hrm hGX hOk ((tx, 32), (cm, sg, len, s1.1.1), (s1.1.2, ro), cf) (by decide) _ _ _ _ _ ⟨Nat.le_of_ble_eq_true rfl, ⟨tx, [.inl (32)], [4], _, rfl, t1.1⟩, Nat.le_of_ble_eq_true rfl, Nat.le_of_ble_eq_true rfl, Nat.le_of_ble_eq_true rfl, ⟨rfl, hlen, m1.2, t1⟩, ?_⟩
    rintro v g2 ⟨rfl, h2, t2⟩ -
    have m2 := sg_mv (f := cf) (x := 32) (s := s1.1) m1.2
    have o2 := fun h => sg_ok (n := len) (f := cf) (x := 32) (s := s1.1) h
    rw [show (s1.1.1, s1.1.2) = s1.1 from rfl] at t2
    generalize tx_sg len cf 32 s1.1 = s2 at *
    have H2 := hg_tr h1 h2
    refine bX6_parseStop_16 hX hrm hGX hOk (h, n, f3) (by decide) _ _ _ _ _ ⟨Nat.le_of_ble_eq_true rfl, ⟨h, [], [30, u], _, rfl, H2 _ _ _ c0 (by simp)⟩, Nat.le_of_ble_eq_true rfl, Nat.le_of_ble_eq_true rfl, Nat.le_of_ble_eq_true rfl, ⟨rfl, hn, _, _, _, _, H2 _ _ _ c0 (by simp), rfl, rfl, H2 _ _ _ c3 (by simp)⟩, ?_⟩
    rintro v g2' ⟨rfl, rfl⟩ z hz
    cases hz
    rw [← elo]
    refine bX6_parseStop_21 hX hrm hGX hOk ((tx, lo, 259200), (cm, sg, len, s2.1), (s2.2, ro), cf) (by decide) _ _ _ _ _ ⟨Nat.le_of_ble_eq_true rfl, ⟨tx, [.inl (lo), .inl (259200)], [4], _, rfl, t2.1⟩, Nat.le_of_ble_eq_true rfl, Nat.le_of_ble_eq_true rfl, Nat.le_of_ble_eq_true rfl, ⟨rfl, hlen, m2.2, t2⟩, ?_⟩
    rintro v g3 ⟨rfl, h3, t3⟩ z hz
    cases hz
    have m3 := nu_mv (f := cf) (lo := lo) (hi := 259200) (s := s2) m2.2
    have o3 := fun h => nu_ok (n := len) (f := cf) (lo := lo) (hi := 259200) (s := s2) (by omega) h
    rw [show (s2.1, s2.2) = s2 from rfl] at t3 ⊢
    rw [← E3] at m3 t3 o3 ⊢
    generalize tp_3 len cf lo (at', fa) = s3 at *
    refine bX6_parseStop_28 hX hrm hGX hOk ((tx, 32), (cm, sg, len, s3.1.1), (s3.1.2, ro), cf) (by decide) _ _ _ _ _ ⟨Nat.le_of_ble_eq_true rfl, ⟨tx, [.inl (32)], [4], _, rfl, t3.1⟩, Nat.le_of_ble_eq_true rfl, Nat.le_of_ble_eq_true rfl, Nat.le_of_ble_eq_true rfl, ⟨rfl, hlen, m3.2, t3⟩, ?_⟩
    rintro v g4 ⟨rfl, h4, t4⟩ -
    have m4 := sg_mv (f := cf) (x := 32) (s := s3.1) m3.2
    have o4 := fun h => sg_ok (n := len) (f := cf) (x := 32) (s := s3.1) h
    rw [show (s3.1.1, s3.1.2) = s3.1 from rfl] at t4
    generalize tx_sg len cf 32 s3.1 = s4 at *
    refine bX6_parseStop_35 hX hrm hGX hOk ((tx, s3.2, 259200), (cm, sg, len, s4.1), (s4.2, ro), cf) (by decide) _ _ _ _ _ ⟨Nat.le_of_ble_eq_true rfl, ⟨tx, [.inl (s3.2), .inl (259200)], [4], _, rfl, t4.1⟩, Nat.le_of_ble_eq_true rfl, Nat.le_of_ble_eq_true rfl, Nat.le_of_ble_eq_true rfl, ⟨rfl, hlen, m4.2, t4⟩, ?_⟩
    rintro v g5 ⟨rfl, h5, t5⟩ z hz
    cases hz
    have m5 := nu_mv (f := cf) (lo := s3.2) (hi := 259200) (s := s4) m4.2
    have o5 := fun h => nu_ok (n := len) (f := cf) (lo := s3.2) (hi := 259200) (s := s4) (by omega) h
    rw [show (s4.1, s4.2) = s4 from rfl] at t5 ⊢
    rw [← E5] at m5 t5 o5 ⊢
    generalize tp_5 len cf lo (at', fa) = s5 at *
    have H5 := hg_tr H2 (hg_tr h3 (hg_tr h4 h5))
    have cm5 := cmS_mono H5 (fun b hb => Or.inl hb) hcm
    have HH := hg_mono H5 (S' := trSc U0) (fun b hb => Or.inl hb)
    refine ⟨_, _, _, t5.1, rfl, fun q => ?_, fun q => ?_⟩
    · refine bX6_parseStop_56 hX hR _ _ _ _ _ ⟨Nat.le_of_ble_eq_true rfl, Nat.le_of_ble_eq_true rfl, rfl, ?_⟩
      rw [ES, if_neg q]
      exact ⟨HH, K, U, Nat.le_refl _, t5, hlen, m5.2, hU, cm5⟩
    · have hq : s5.1.2 = -1 := q
      obtain ⟨p4, _, _⟩ := o5 hq
      obtain ⟨p2, _, _⟩ := o3 (o4 p4)
      obtain ⟨_, b1, b2⟩ := o1 (o2 p2)
      obtain ⟨pp, hpp, hpe⟩ := nI_of (x := s1.2) (by rw [i3_lt]; rw [i3_le] at b1; omega)
      have hp99 : pp < 100 := by
        rw [hpe, i3_le, nI_toInt hpp, show (99 : Int32).toInt = 99 from rfl] at b2
        omega
      have hlo5 := (cm5.2.1 (m - 1) (by omega)).1
      rw [hKm] at hlo5
      obtain ⟨-, ⟨c0', c1', c2', c3', c8', c9'⟩, -, -, -, -, d5'⟩ := id hlo5
      refine bX6_parseStop_48 hX _ _ _ _ _ ?_
      refine bX6_parseStop_53 hX hrm hGX hOk (h, (s1.2, s3.2, s5.2), ([30, u], _), n, (La 1, La 2, La 3), ([31, u], [32, u], [33, u]), f1, f2, f3) (by decide) _ _ _ _ _ ⟨Nat.le_of_ble_eq_true rfl, ⟨h, [.inl (s1.2), .inl (s3.2), .inl (s5.2)], [30, u], _, rfl, c0'⟩, Nat.le_of_ble_eq_true rfl, Nat.le_of_ble_eq_true rfl, Nat.le_of_ble_eq_true rfl, ⟨rfl, hn, c0', rfl, rfl, rfl, rfl, c1', c2', c3', by simp, by simp, by simp, by simp, by simp, by simp⟩, ?_⟩
      rintro v g6 ⟨rfl, hc⟩ -
      rcases hc with ⟨e, -⟩ | ⟨-, h6, w0, w1, w2, w3⟩
      · omega
      refine bX6_parseStop_56 hX hR _ _ _ _ _ ⟨Nat.le_of_ble_eq_true rfl, Nat.le_of_ble_eq_true rfl, rfl, ?_⟩
      rw [ES, if_pos hq]
      have n6 : ∀ b : List Nat, b ≠ [30, u] → b ≠ [31, u] → b ≠ [32, u] → b ≠ [33, u] → ¬ (b = [30, u] ∨ b = [31, u] ∨ b = [32, u] ∨ b = [33, u]) := fun b a1 a2 a3 a4 hb => by
        rcases hb with hb | hb | hb | hb
        · exact a1 hb
        · exact a2 hb
        · exact a3 hb
        · exact a4 hb
      refine ⟨hg_tr HH (hg_mono h6 (fun b hb => Or.inr (Or.inr (Or.inr ⟨u, hu0, hb⟩)))), (fun i => if i = m - 1 then lr_st s1.2 s3.2 s5.2 (K (m - 1)) else K i), U, Nat.le_refl _, txS_mono h6 ⟨n6 _ (by simp) (by simp) (by simp) (by simp), n6 _ (by simp) (by simp) (by simp) (by simp)⟩ t5, hlen, m5.2, hU, ?_, fun i hi => ?_, fun i j hi hj e => ?_⟩
      · have l6 := lsE_mono h6 ⟨n6 _ (by simp) (by simp) (by simp) (by simp), n6 _ (by simp) (by simp) (by simp) (by simp), n6 _ (by simp) (by simp) (by simp) (by simp)⟩ cm5.1
        have : (fun i => lr_h (K i)) = fun i => lr_h (if i = m - 1 then lr_st s1.2 s3.2 s5.2 (K (m - 1)) else K i) := by
          funext i
          by_cases him : i = m - 1
          · rw [if_pos him, him, hKm]; rfl
          · rw [if_neg him]
        rw [this] at l6
        exact l6
      · have hi : i < m := hi
        by_cases him : i = m - 1
        · subst him
          dsimp only
          rw [if_pos rfl, hKm]
          have hlt5 := (cm5.2.1 (m - 1) (by omega)).2.1
          rw [hKm] at hlt5
          obtain ⟨rn', A', B', hlt5⟩ := hlt5
          refine ⟨⟨by show n + 1 ≤ 12; omega, ⟨w0, w1, w2, w3, ?_, ?_⟩, rfl, d2, rfl, d4, fun k hk => ?_⟩, ⟨rn', A', B', lrT_mono h6 _ ⟨n6 _ (by simp) (by simp) (by simp) (by simp), fun i => n6 _ (by simp) (by simp) (by simp) (by simp), fun i => n6 _ (by simp) (by simp) (by simp) (by simp), n6 _ (by simp) (by simp) (by simp) (by simp)⟩ hlt5⟩, ?_, hu0, huU⟩
          · obtain ⟨o8, q8, q8'⟩ := c8'
            exact ⟨o8, h6 _ _ _ q8 (n6 _ (by simp) (by simp) (by simp) (by simp)), q8'⟩
          · obtain ⟨o9, q9, q9'⟩ := c9'
            exact ⟨o9, h6 _ _ _ q9 (n6 _ (by simp) (by simp) (by simp) (by simp)), q9'⟩
          · have hk : k < n + 1 := hk
            show ∃ p, p < 100 ∧ upd f1 n s1.2 k = nI p
            by_cases hkn : k = n
            · rw [hkn, pk_us]; exact ⟨pp, hp99, hpe⟩
            · rw [pk_un hkn]; exact d5' k (by omega)
          · unfold clU
            rw [if_pos rfl, hDm]
            exact ⟨rfl, rfl, rfl, rfl, rfl⟩
        · dsimp only
          rw [if_neg him]
          obtain ⟨a1, ⟨rn', A', B', a2⟩, a3, a4, a5⟩ := cm5.2.1 i hi
          have hun : lr_u (K i) ≠ u := fun e => him (hcm.2.2 i (m - 1) hi (by omega) (by rw [hKm]; exact e))
          have ne : ∀ x : Nat, ([x, lr_u (K i)] : List Nat) ≠ [x, u] := fun x e => hun (by injection e with _ e; injection e)
          have nf : ∀ x y : Nat, x ≠ y → ([x, lr_u (K i)] : List Nat) ≠ [y, u] := fun x y hxy e => hxy (by injection e)
          have nn : ∀ x : Nat, ¬ (([x, lr_u (K i)] : List Nat) = [30, u] ∨ ([x, lr_u (K i)] : List Nat) = [31, u] ∨ ([x, lr_u (K i)] : List Nat) = [32, u] ∨ ([x, lr_u (K i)] : List Nat) = [33, u]) := fun x hb => by
            rcases hb with hb | hb | hb | hb <;> exact hun (by injection hb with _ e; injection e)
          refine ⟨lrOK_mono h6 _ ⟨⟨nn _, nn _, nn _, nn _, nn _, nn _⟩, fun d => n6 _ (by simp) (by simp) (by simp) (by simp), nn _⟩ a1, ⟨rn', A', B', lrT_mono h6 _ ⟨nn _, fun i => n6 _ (by simp) (by simp) (by simp) (by simp), fun i => n6 _ (by simp) (by simp) (by simp) (by simp), nn _⟩ a2⟩, ?_, a4, a5⟩
          unfold clU
          rw [if_neg him]
          exact a3
      · have hi : i < m := hi
        have hj : j < m := hj
        have hlu : ∀ i, lr_u (if i = m - 1 then lr_st s1.2 s3.2 s5.2 (K (m - 1)) else K i) = lr_u (K i) := fun i => by
          by_cases him : i = m - 1
          · rw [if_pos him, him, hKm]; rfl
          · rw [if_neg him]
        dsimp only at e
        rw [hlu i, hlu j] at e
        exact hcm.2.2 i j hi hj e
