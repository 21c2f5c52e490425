/-! the law, case by case -/
theorem me_badF {a b : Int32} (h : me_bad a b = false) : a = nI a.toNatClampNeg ∧ a.toNatClampNeg < 100 ∧ b = nI b.toNatClampNeg ∧ b.toNatClampNeg < 100 := by
  have hj : ¬ jnI a b := fun e => by rw [me_bad_t.mpr e] at h; cases h
  obtain ⟨x, hx, rfl⟩ := bI_nI (b := 100) (by omega) (fun e => hj (Or.inl e))
  obtain ⟨y, hy, rfl⟩ := bI_nI (b := 100) (by omega) (fun e => hj (Or.inr e))
  rw [ni_cl (by omega), ni_cl (by omega)]
  exact ⟨rfl, hx, rfl, hy⟩
set_option maxRecDepth 20000 in
theorem lc_next {X : pz_C} {G : pz_Gx} {sa md mi bS LS : Nat} {xs : Nat → Int32} (hX : pz_X X cL_law 8 RL) (hrm : pz_rm X = lw_rm) (hGX : pz_GX X G) (hOk : pz_O5 G sa md mi bS LS xs) {h mo out i len c s : Nat} {M : Nat → Nat} {g : pz_H} (hi : i + 7 ≤ LS) (hLS : LS ≤ 3584) (hc : c + 35 * len + 40 ≤ 601024) (hs : s + 471 * len + 2440 ≤ 7293034) (hI : lwI sa g h mo out M len) (nx : lw_nx X sa bS h mo out M i len c s) : pz_Z X 8 1063 [(4, .inl (nI i)), (0, .inr (.inr (some bS))), (1, .inr (.inr (some h))), (2, .inr (.inr (some mo))), (3, .inr (.inr (some out)))] [] g c s := by
  obtain ⟨cs, I, Ai, Aj, cn, f, rfl, rfl, hcl, hmo, hk, ho⟩ := hI
  obtain ⟨h, ⟨nt, wy, lv, tx⟩, ⟨ne, nz, nw⟩, ⟨la, pa, na, so, fd, Wa⟩, ⟨nl, L, U⟩, ⟨fp, Z, N, C⟩, ⟨lg, K, Pa, pf⟩, ⟨ti, lc, lw, lf⟩, ⟨⟨cm, sg, len, at'⟩, ⟨fa, ro⟩, cf, hl⟩⟩ := cs
  dsimp only at hc hs nx ⊢
  replace hk : lwC ne nz nw nl L Z N C K pf len cf I Ai Aj cn := hk
  obtain ⟨a1, a2, a3, a4, a5, a6, a7, a8, a9⟩ := id hcl
  refine bL_law_1063 hX hGX hOk _ _ _ _ _ ⟨rfl, lw_in (k := 1) rfl (by decide) hi hLS, rfl, lw_in (k := 2) rfl (by decide) hi hLS, rfl, lw_in (k := 3) rfl (by decide) hi hLS, rfl, lw_in (k := 4) rfl (by decide) hi hLS, rfl, lw_in (k := 5) rfl (by decide) hi hLS, ?_⟩
  refine bL_law_1105 hX hrm hGX hOk (((h, _, _, _, _), (nt, wy, lv, tx), (ne, nz, nw), (la, pa, na, so, fd, Wa), (nl, L, U), (fp, Z, N, C), (ti, lc, lw, lf)), out, f) (by decide) _ _ _ _ _ ⟨Nat.le_of_ble_eq_true rfl, by show c + 4 ≤ 601024; omega, by show s + 24 ≤ 7293034; omega, Nat.le_of_ble_eq_true rfl, ⟨[.inr (.inr (some h)), .inl _, .inl _, .inr (.inl _), .inl _], rfl, ⟨rfl, a1, a2, a3, a4, a7⟩, ⟨_, _, _, _, rfl, a1⟩, ho⟩, ?_⟩
  rintro v g1 h1 r rfl
  have hm1 : moS g1 mo M I Ai Aj := moS_clX (hk_next (sa := sa) (md := md) h1) hmo
  refine ⟨rfl, lw_in (k := 1) rfl (by decide) hi hLS, rfl, lw_in (k := 2) rfl (by decide) hi hLS, rfl, lw_in (k := 3) rfl (by decide) hi hLS, rfl, lw_in (k := 4) rfl (by decide) hi hLS, rfl, lw_in (k := 5) rfl (by decide) hi hLS, ?_⟩
  refine bL_law_1151 hX hrm hGX hOk ((xs (nI i + 1).toNatClampNeg, xs (nI i + 2).toNatClampNeg, _, _), ((xs (nI i + 1).toNatClampNeg).toNatClampNeg, (xs (nI i + 2).toNatClampNeg).toNatClampNeg), (nl, ne, nz, nw, cn), (mo, M, I, Ai, Aj)) (by decide) _ _ _ _ _ ⟨Nat.le_of_ble_eq_true rfl, ⟨mo, [.inl _, .inl _, .inr (.inl _), .inl _], _, _, rfl, hm1.1⟩, by show c + 4 + 0 ≤ 601024; omega, by show s + 24 + 0 ≤ 7293034; omega, Nat.le_of_ble_eq_true rfl, ⟨rfl, hk.1, me_badF, hm1⟩, ?_⟩
  rintro v g2 h2 b rfl
  have hr := st_next (md := md) hcl hk ho h1 h2
  obtain ⟨I2, f2, hm2, rfl, ho2, hb2, hI2⟩ := hr
  refine bL_law_1157 hX hrm hGX hOk (mo, M, I2) (by decide) _ _ _ _ _ ⟨Nat.le_of_ble_eq_true rfl, ⟨mo, [], _, _, rfl, hm2⟩, by show c + 4 + 0 + 0 ≤ 601024; omega, by show s + 24 + 0 + 0 ≤ 7293034; omega, Nat.le_of_ble_eq_true rfl, ⟨rfl, hm2⟩, ?_⟩
  rintro v g3 ⟨rfl, rfl⟩ t ht
  cases ht
  refine ⟨fun _ => ?_, fun e => absurd rfl e⟩
  refine bL_law_1167 hX _ _ _ _ _ ⟨fun _ => ?_, fun h0 => ?_⟩
  · exact bL_law_1184 hX _ _ _ _ _ (pz_lsub (lv' := [(4, .inl (nI i)), (0, .inr (.inr (some bS))), (1, .inr (.inr (some h))), (2, .inr (.inr (some mo))), (3, .inr (.inr (some out)))]) ⟨rfl, rfl, rfl, rfl, rfl, trivial⟩ (nx _ _ _ len hI2 (by show c + 4 + 0 + 0 + 35 * len ≤ c + 35 * len + 40; omega) (by show s + 24 + 0 + 0 + 471 * len ≤ s + 471 * len + 2440; omega)))
  · refine bL_law_1172 hX _ _ _ _ _ ⟨_, _, _, ho2, ni_in (j := 0) (n := 1) (by omega) (by omega), fun _ => ?_, fun e => absurd (lc_self (hb2 h0)) e⟩
    exact bL_law_1184 hX _ _ _ _ _ (pz_lsub (lv' := [(4, .inl (nI i)), (0, .inr (.inr (some bS))), (1, .inr (.inr (some h))), (2, .inr (.inr (some mo))), (3, .inr (.inr (some out)))]) ⟨rfl, rfl, rfl, rfl, rfl, trivial⟩ (nx _ _ _ len hI2 (by show c + 4 + 0 + 0 + 35 * len ≤ c + 35 * len + 40; omega) (by show s + 24 + 0 + 0 + 471 * len ≤ s + 471 * len + 2440; omega)))
set_option maxRecDepth 20000 in
theorem lc_sign {X : pz_C} {G : pz_Gx} {sa md mi bS LS : Nat} {xs : Nat → Int32} (hX : pz_X X cL_law 8 RL) (hrm : pz_rm X = lw_rm) (hGX : pz_GX X G) (hOk : pz_O5 G sa md mi bS LS xs) {h mo out i len c s : Nat} {M : Nat → Nat} {g : pz_H} (hi : i + 7 ≤ LS) (hLS : LS ≤ 3584) (hc : c + 35 * len + 40 ≤ 601024) (hs : s + 471 * len + 2440 ≤ 7293034) (hI : lwI sa g h mo out M len) (nx : lw_nx X sa bS h mo out M i len c s) : pz_Z X 8 1187 [(4, .inl (nI i)), (0, .inr (.inr (some bS))), (1, .inr (.inr (some h))), (2, .inr (.inr (some mo))), (3, .inr (.inr (some out)))] [] g c s := by
  obtain ⟨cs, I, Ai, Aj, cn, f, rfl, rfl, hcl, hmo, hk, ho⟩ := hI
  obtain ⟨h, ⟨nt, wy, lv, tx⟩, ⟨ne, nz, nw⟩, ⟨la, pa, na, so, fd, Wa⟩, ⟨nl, L, U⟩, ⟨fp, Z, N, C⟩, ⟨lg, K, Pa, pf⟩, ⟨ti, lc, lw, lf⟩, ⟨⟨cm, sg, len, at'⟩, ⟨fa, ro⟩, cf, hl⟩⟩ := cs
  dsimp only at hc hs nx ⊢
  replace hk : lwC ne nz nw nl L Z N C K pf len cf I Ai Aj cn := hk
  obtain ⟨a1, a2, a3, a4, a5, a6, a7, a8, a9⟩ := id hcl
  refine bL_law_1187 hX hGX hOk _ _ _ _ _ ⟨rfl, lw_in (k := 1) rfl (by decide) hi hLS, ?_⟩
  refine bL_law_1194 hX hrm hGX hOk ((h, _), (nt, wy, lv, tx), (ne, nz, nw), (cm, sg, len, at'), (fa, ro), cf) (by decide) _ _ _ _ _ ⟨Nat.le_of_ble_eq_true rfl, by show c + 2 ≤ 601024; omega, by show s + 12 ≤ 7293034; omega, Nat.le_of_ble_eq_true rfl, ⟨[.inr (.inr (some h)), .inl _], rfl, ⟨rfl, hk.2.2.2.2.1.2.1, a1, a8⟩, ⟨_, _, _, _, rfl, a1⟩⟩, ?_⟩
  rintro v g1 h1 r rfl
  have hm1 : moS g1 mo M I Ai Aj := moS_clX (hk_sign (sa := sa) (md := md) h1) hmo
  refine ⟨rfl, lw_in (k := 1) rfl (by decide) hi hLS, ?_⟩
  refine bL_law_1206 hX hrm hGX hOk ((_, len), (mo, M, I, Ai, Aj)) (by decide) _ _ _ _ _ ⟨Nat.le_of_ble_eq_true rfl, ⟨mo, [.inl _], _, _, rfl, hm1.1⟩, by show c + 2 + 0 ≤ 601024; omega, by show s + 12 + 0 ≤ 7293034; omega, Nat.le_of_ble_eq_true rfl, ⟨rfl, hk.2.2.2.2.1.1, hk.2.2.2.2.1.2.1, hm1⟩, ?_⟩
  rintro v g2 h2 rfl
  obtain ⟨len', bb, hlen, hr⟩ := st_sign (md := md) hcl hk ho h1 h2
  obtain ⟨I2, f2, hm2, rfl, ho2, hb2, hI2⟩ := hr
  refine bL_law_1210 hX hrm hGX hOk (mo, M, I2) (by decide) _ _ _ _ _ ⟨Nat.le_of_ble_eq_true rfl, ⟨mo, [], _, _, rfl, hm2⟩, by show c + 2 + 0 + 0 ≤ 601024; omega, by show s + 12 + 0 + 0 ≤ 7293034; omega, Nat.le_of_ble_eq_true rfl, ⟨rfl, hm2⟩, ?_⟩
  rintro v g3 ⟨rfl, rfl⟩ t ht
  cases ht
  exact ⟨fun _ => bL_law_1220 hX _ _ _ _ _ (pz_lsub (lv' := [(4, .inl (nI i)), (0, .inr (.inr (some bS))), (1, .inr (.inr (some h))), (2, .inr (.inr (some mo))), (3, .inr (.inr (some out)))]) ⟨rfl, rfl, rfl, rfl, rfl, trivial⟩ (nx _ _ _ len' hI2 (by show c + 2 + 0 + 0 + 35 * len' ≤ c + 35 * len + 40; omega) (by show s + 12 + 0 + 0 + 471 * len' ≤ s + 471 * len + 2440; omega))), fun e => absurd rfl e⟩
set_option maxRecDepth 20000 in
theorem lc_read {X : pz_C} {G : pz_Gx} {sa md mi bS LS : Nat} {xs : Nat → Int32} (hX : pz_X X cL_law 8 RL) (hrm : pz_rm X = lw_rm) (hGX : pz_GX X G) (hOk : pz_O5 G sa md mi bS LS xs) {h mo out i len c s : Nat} {M : Nat → Nat} {g : pz_H} (hi : i + 7 ≤ LS) (hLS : LS ≤ 3584) (hc : c + 35 * len + 40 ≤ 601024) (hs : s + 471 * len + 2440 ≤ 7293034) (hI : lwI sa g h mo out M len) (nx : lw_nx X sa bS h mo out M i len c s) : pz_Z X 8 1223 [(4, .inl (nI i)), (0, .inr (.inr (some bS))), (1, .inr (.inr (some h))), (2, .inr (.inr (some mo))), (3, .inr (.inr (some out)))] [] g c s := by
  obtain ⟨cs, I, Ai, Aj, cn, f, rfl, rfl, hcl, hmo, hk, ho⟩ := hI
  obtain ⟨h, ⟨nt, wy, lv, tx⟩, ⟨ne, nz, nw⟩, ⟨la, pa, na, so, fd, Wa⟩, ⟨nl, L, U⟩, ⟨fp, Z, N, C⟩, ⟨lg, K, Pa, pf⟩, ⟨ti, lc, lw, lf⟩, ⟨⟨cm, sg, len, at'⟩, ⟨fa, ro⟩, cf, hl⟩⟩ := cs
  dsimp only at hc hs nx ⊢
  replace hk : lwC ne nz nw nl L Z N C K pf len cf I Ai Aj cn := hk
  obtain ⟨a1, a2, a3, a4, a5, a6, a7, a8, a9⟩ := id hcl
  refine bL_law_1223 hX _ _ _ _ _ ?_
  refine bL_law_1224 hX hrm hGX hOk (h, (nt, wy, lv, tx), (ne, nz, nw), (la, pa, na, so, fd, Wa), (nl, L, U), ((cm, sg, len, at'), (fa, ro), cf, hl, fun _ => cl_0 0)) ⟨Nat.le_of_ble_eq_true rfl, Nat.le_of_ble_eq_true rfl⟩ _ _ _ _ _ ⟨Nat.le_of_ble_eq_true rfl, ⟨h, [], _, _, rfl, a1⟩, by show c + (35 * len + 40) ≤ 601024; omega, by show s + (471 * len + 2440) ≤ 7293034; omega, Nat.le_of_ble_eq_true rfl, ⟨rfl, hk.2.2.2.2.1.2.1, a1, a2, a3, a8, a9⟩, ?_⟩
  rintro v g1 h1 r rfl
  have hm1 : moS g1 mo M I Ai Aj := moS_clX (hg_clX h1.2.1 (by simp [rdSc, trSc]) (by simp [rdSc, trSc])) hmo
  refine bL_law_1228 hX hrm hGX hOk ((len, nl), (mo, M, I, Ai, Aj)) (by decide) _ _ _ _ _ ⟨Nat.le_of_ble_eq_true rfl, ⟨mo, [], _, _, rfl, hm1.1⟩, by show c + (35 * len + 40) + 0 ≤ 601024; omega, by show s + (471 * len + 2440) + 0 ≤ 7293034; omega, Nat.le_of_ble_eq_true rfl, ⟨rfl, hk.2.2.2.2.1.1, hk.2.2.2.2.1.2.1, hk.1.1.1, hk.1.1.2, hm1⟩, ?_⟩
  rintro v g2 h2 b rfl
  obtain ⟨rfl, hI2⟩ := st_read hcl hk ho h1 h2
  exact ⟨fun _ => nx _ _ _ 0 hI2 (by show c + (35 * len + 40) + 0 + 35 * 0 ≤ c + 35 * len + 40; omega) (by show s + (471 * len + 2440) + 0 + 471 * 0 ≤ s + 471 * len + 2440; omega), fun e => absurd rfl e⟩
