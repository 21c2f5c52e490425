/-! the law, case by case -/
set_option maxRecDepth 20000 in
theorem lc_earliest {X : pz_C} {G : pz_Gx} {sa md mi bS LS : Nat} {xs : Nat → Int32} (hX : pz_X X cL_law 8 RL) (hrm : pz_rm X = lw_rm) (hGX : pz_GX X G) (hOk : pz_O5 G sa md mi bS LS xs) {h mo out i len c s : Nat} {M : Nat → Nat} {g : pz_H} (hi : i + 7 ≤ LS) (hLS : LS ≤ 3584) (hc : c + 35 * len + 40 ≤ 601024) (hs : s + 471 * len + 2440 ≤ 7293034) (hI : lwI sa g h mo out M len) (nx : lw_nx X sa bS h mo out M i len c s) : pz_Z X 8 816 [(4, .inl (nI i)), (0, .inr (.inr (some bS))), (1, .inr (.inr (some h))), (2, .inr (.inr (some mo))), (3, .inr (.inr (some out)))] [] g c s := by
  obtain ⟨cs, I, Ai, Aj, cn, f, rfl, rfl, hcl, hmo, hk, ho⟩ := hI
  obtain ⟨h, ⟨nt, wy, lv, tx⟩, ⟨ne, nz, nw⟩, ⟨la, pa, na, so, fd, Wa⟩, ⟨nl, L, U⟩, ⟨fp, Z, N, C⟩, ⟨lg, K, Pa, pf⟩, ⟨ti, lc, lw, lf⟩, ⟨⟨cm, sg, len, at'⟩, ⟨fa, ro⟩, cf, hl⟩⟩ := cs
  dsimp only at hc hs nx ⊢
  replace hk : lwC ne nz nw nl L Z N C K pf len cf I Ai Aj cn := hk
  obtain ⟨a1, a2, a3, a4, a5, a6, a7, a8, a9⟩ := id hcl
  refine bL_law_816 hX hGX hOk _ _ _ _ _ ⟨rfl, lw_in (k := 1) rfl (by decide) hi hLS, rfl, lw_in (k := 2) rfl (by decide) hi hLS, rfl, lw_in (k := 3) rfl (by decide) hi hLS, rfl, lw_in (k := 4) rfl (by decide) hi hLS, ?_⟩
  refine bL_law_852 hX hrm hGX hOk (((h, _, _, _), (nt, wy, lv, tx), (ne, nz, nw), (la, pa, na, so, fd, Wa), (nl, L, U), (fp, Z, N, C), (lg, K, Pa, pf)), out, f) (by decide) _ _ _ _ _ ⟨Nat.le_of_ble_eq_true rfl, by show c + 3 ≤ 601024; omega, by show s + 18 ≤ 7293034; omega, Nat.le_of_ble_eq_true rfl, ⟨[.inr (.inr (some h)), .inl _, .inl _, .inr (.inl _)], rfl, ⟨rfl, a1, a2, a3, a4, a5, a6⟩, ⟨_, _, _, _, rfl, a1⟩, ho⟩, ?_⟩
  rintro v g1 h1 r rfl
  have hm1 : moS g1 mo M I Ai Aj := moS_clX (hk_earliest (sa := sa) (md := md) h1) hmo
  refine ⟨rfl, lw_in (k := 1) rfl (by decide) hi hLS, rfl, lw_in (k := 2) rfl (by decide) hi hLS, rfl, lw_in (k := 3) rfl (by decide) hi hLS, rfl, lw_in (k := 4) rfl (by decide) hi hLS, ?_⟩
  obtain ⟨Kx, w, q, hpre, hpost⟩ := st_earliest (md := md) (mo := mo) (M := M) hcl hk ho h1
  refine bL_law_892 hX hrm hGX hOk ((_, _, _), (_, _, Kx, w, q), (nl, ne, nz, nw, cn), (mo, M, I, Ai, Aj)) (by decide) _ _ _ _ _ ⟨Nat.le_of_ble_eq_true rfl, ⟨mo, [.inl _, .inl _, .inr (.inl _)], _, _, rfl, hm1.1⟩, by show c + 3 + 0 ≤ 601024; omega, by show s + 18 + 0 ≤ 7293034; omega, Nat.le_of_ble_eq_true rfl, ⟨rfl, hk.1, hpre, hm1⟩, ?_⟩
  rintro v g2 h2 b rfl
  have hr := hpost g2 b h2
  obtain ⟨I2, f2, hm2, rfl, ho2, hb2, hI2⟩ := hr
  refine bL_law_898 hX hrm hGX hOk (mo, M, I2) (by decide) _ _ _ _ _ ⟨Nat.le_of_ble_eq_true rfl, ⟨mo, [], _, _, rfl, hm2⟩, by show c + 3 + 0 + 0 ≤ 601024; omega, by show s + 18 + 0 + 0 ≤ 7293034; omega, Nat.le_of_ble_eq_true rfl, ⟨rfl, hm2⟩, ?_⟩
  rintro v g3 ⟨rfl, rfl⟩ t ht
  cases ht
  refine ⟨fun _ => ?_, fun e => absurd rfl e⟩
  refine bL_law_908 hX _ _ _ _ _ ⟨fun _ => ?_, fun h0 => ?_⟩
  · exact bL_law_924 hX _ _ _ _ _ (pz_lsub (lv' := [(4, .inl (nI i)), (0, .inr (.inr (some bS))), (1, .inr (.inr (some h))), (2, .inr (.inr (some mo))), (3, .inr (.inr (some out)))]) ⟨rfl, rfl, rfl, rfl, rfl, trivial⟩ (nx _ _ _ len hI2 (by show c + 3 + 0 + 0 + 35 * len ≤ c + 35 * len + 40; omega) (by show s + 18 + 0 + 0 + 471 * len ≤ s + 471 * len + 2440; omega)))
  · refine bL_law_913 hX _ _ _ _ _ ⟨_, _, _, ho2, ni_in (j := 0) (n := 1) (by omega) (by omega), fun _ => ?_, fun e => absurd (lc_self (hb2 h0)) e⟩
    exact bL_law_924 hX _ _ _ _ _ (pz_lsub (lv' := [(4, .inl (nI i)), (0, .inr (.inr (some bS))), (1, .inr (.inr (some h))), (2, .inr (.inr (some mo))), (3, .inr (.inr (some out)))]) ⟨rfl, rfl, rfl, rfl, rfl, trivial⟩ (nx _ _ _ len hI2 (by show c + 3 + 0 + 0 + 35 * len ≤ c + 35 * len + 40; omega) (by show s + 18 + 0 + 0 + 471 * len ≤ s + 471 * len + 2440; omega)))
set_option maxRecDepth 20000 in
theorem lc_step {X : pz_C} {G : pz_Gx} {sa md mi bS LS : Nat} {xs : Nat → Int32} (hX : pz_X X cL_law 8 RL) (hrm : pz_rm X = lw_rm) (hGX : pz_GX X G) (hOk : pz_O5 G sa md mi bS LS xs) {h mo out i len c s : Nat} {M : Nat → Nat} {g : pz_H} (hi : i + 7 ≤ LS) (hLS : LS ≤ 3584) (hc : c + 35 * len + 40 ≤ 601024) (hs : s + 471 * len + 2440 ≤ 7293034) (hI : lwI sa g h mo out M len) (nx : lw_nx X sa bS h mo out M i len c s) : pz_Z X 8 927 [(4, .inl (nI i)), (0, .inr (.inr (some bS))), (1, .inr (.inr (some h))), (2, .inr (.inr (some mo))), (3, .inr (.inr (some out)))] [] g c s := by
  obtain ⟨cs, I, Ai, Aj, cn, f, rfl, rfl, hcl, hmo, hk, ho⟩ := hI
  obtain ⟨h, ⟨nt, wy, lv, tx⟩, ⟨ne, nz, nw⟩, ⟨la, pa, na, so, fd, Wa⟩, ⟨nl, L, U⟩, ⟨fp, Z, N, C⟩, ⟨lg, K, Pa, pf⟩, ⟨ti, lc, lw, lf⟩, ⟨⟨cm, sg, len, at'⟩, ⟨fa, ro⟩, cf, hl⟩⟩ := cs
  dsimp only at hc hs nx ⊢
  replace hk : lwC ne nz nw nl L Z N C K pf len cf I Ai Aj cn := hk
  obtain ⟨a1, a2, a3, a4, a5, a6, a7, a8, a9⟩ := id hcl
  refine bL_law_927 hX hGX hOk _ _ _ _ _ ⟨rfl, lw_in (k := 1) rfl (by decide) hi hLS, rfl, lw_in (k := 2) rfl (by decide) hi hLS, ?_⟩
  refine bL_law_941 hX hrm hGX hOk (((h, _, _), (nt, wy, lv, tx), (ne, nz, nw), (lg, K, Pa, pf)), out, f) (by decide) _ _ _ _ _ ⟨Nat.le_of_ble_eq_true rfl, by show c + 1 ≤ 601024; omega, by show s + 6 ≤ 7293034; omega, Nat.le_of_ble_eq_true rfl, ⟨[.inr (.inr (some h)), .inl _, .inl _], rfl, ⟨rfl, hk.2.2.2.1.2.1, a1, a6⟩, ⟨_, _, _, _, rfl, a1⟩, ho⟩, ?_⟩
  rintro v g1 h1 r rfl
  have hm1 : moS g1 mo M I Ai Aj := moS_clX (hk_step (sa := sa) (md := md) h1) hmo
  refine ⟨rfl, lw_in (k := 1) rfl (by decide) hi hLS, rfl, lw_in (k := 2) rfl (by decide) hi hLS, ?_⟩
  refine bL_law_959 hX hrm hGX hOk ((_, _, K), (mo, M, I, Ai, Aj)) (by decide) _ _ _ _ _ ⟨Nat.le_of_ble_eq_true rfl, ⟨mo, [.inl _, .inl _], _, _, rfl, hm1.1⟩, by show c + 1 + 0 ≤ 601024; omega, by show s + 6 + 0 ≤ 7293034; omega, Nat.le_of_ble_eq_true rfl, ⟨rfl, hk.2.2.2.1.1, hk.2.2.2.1.2.1, hm1⟩, ?_⟩
  rintro v g2 h2 b rfl
  have hr := st_step (md := md) hcl hk ho h1 h2
  obtain ⟨I2, f2, hm2, rfl, ho2, hb2, hI2⟩ := hr
  refine bL_law_965 hX hrm hGX hOk (mo, M, I2) (by decide) _ _ _ _ _ ⟨Nat.le_of_ble_eq_true rfl, ⟨mo, [], _, _, rfl, hm2⟩, by show c + 1 + 0 + 0 ≤ 601024; omega, by show s + 6 + 0 + 0 ≤ 7293034; omega, Nat.le_of_ble_eq_true rfl, ⟨rfl, hm2⟩, ?_⟩
  rintro v g3 ⟨rfl, rfl⟩ t ht
  cases ht
  refine ⟨fun _ => ?_, fun e => absurd rfl e⟩
  refine bL_law_975 hX _ _ _ _ _ ⟨fun _ => ?_, fun h0 => ?_⟩
  · exact bL_law_992 hX _ _ _ _ _ (pz_lsub (lv' := [(4, .inl (nI i)), (0, .inr (.inr (some bS))), (1, .inr (.inr (some h))), (2, .inr (.inr (some mo))), (3, .inr (.inr (some out)))]) ⟨rfl, rfl, rfl, rfl, rfl, trivial⟩ (nx _ _ _ len hI2 (by show c + 1 + 0 + 0 + 35 * len ≤ c + 35 * len + 40; omega) (by show s + 6 + 0 + 0 + 471 * len ≤ s + 471 * len + 2440; omega)))
  · refine bL_law_980 hX _ _ _ _ _ ⟨_, _, _, ho2, ni_in (j := 0) (n := 1) (by omega) (by omega), fun _ => ?_, fun e => absurd (lc_self (hb2 h0)) e⟩
    exact bL_law_992 hX _ _ _ _ _ (pz_lsub (lv' := [(4, .inl (nI i)), (0, .inr (.inr (some bS))), (1, .inr (.inr (some h))), (2, .inr (.inr (some mo))), (3, .inr (.inr (some out)))]) ⟨rfl, rfl, rfl, rfl, rfl, trivial⟩ (nx _ _ _ len hI2 (by show c + 1 + 0 + 0 + 35 * len ≤ c + 35 * len + 40; omega) (by show s + 6 + 0 + 0 + 471 * len ≤ s + 471 * len + 2440; omega)))
set_option maxRecDepth 20000 in
theorem lc_days {X : pz_C} {G : pz_Gx} {sa md mi bS LS : Nat} {xs : Nat → Int32} (hX : pz_X X cL_law 8 RL) (hrm : pz_rm X = lw_rm) (hGX : pz_GX X G) (hOk : pz_O5 G sa md mi bS LS xs) {h mo out i len c s : Nat} {M : Nat → Nat} {g : pz_H} (hi : i + 7 ≤ LS) (hLS : LS ≤ 3584) (hc : c + 35 * len + 40 ≤ 601024) (hs : s + 471 * len + 2440 ≤ 7293034) (hI : lwI sa g h mo out M len) (nx : lw_nx X sa bS h mo out M i len c s) : pz_Z X 8 995 [(4, .inl (nI i)), (0, .inr (.inr (some bS))), (1, .inr (.inr (some h))), (2, .inr (.inr (some mo))), (3, .inr (.inr (some out)))] [] g c s := by
  obtain ⟨cs, I, Ai, Aj, cn, f, rfl, rfl, hcl, hmo, hk, ho⟩ := hI
  obtain ⟨h, ⟨nt, wy, lv, tx⟩, ⟨ne, nz, nw⟩, ⟨la, pa, na, so, fd, Wa⟩, ⟨nl, L, U⟩, ⟨fp, Z, N, C⟩, ⟨lg, K, Pa, pf⟩, ⟨ti, lc, lw, lf⟩, ⟨⟨cm, sg, len, at'⟩, ⟨fa, ro⟩, cf, hl⟩⟩ := cs
  dsimp only at hc hs nx ⊢
  replace hk : lwC ne nz nw nl L Z N C K pf len cf I Ai Aj cn := hk
  obtain ⟨a1, a2, a3, a4, a5, a6, a7, a8, a9⟩ := id hcl
  refine bL_law_995 hX hGX hOk _ _ _ _ _ ⟨rfl, lw_in (k := 1) rfl (by decide) hi hLS, rfl, lw_in (k := 2) rfl (by decide) hi hLS, ?_⟩
  refine bL_law_1009 hX hrm hGX hOk ((h, _, _), out, f) (by decide) _ _ _ _ _ ⟨Nat.le_of_ble_eq_true rfl, by show c + 1 ≤ 601024; omega, by show s + 6 ≤ 7293034; omega, Nat.le_of_ble_eq_true rfl, ⟨[.inr (.inr (some h)), .inl _, .inl _], rfl, ⟨rfl, trivial⟩, ⟨_, _, _, _, rfl, a1⟩, ho⟩, ?_⟩
  rintro v g1 h1 r rfl
  have hm1 : moS g1 mo M I Ai Aj := moS_clX (hk_days (sa := sa) (md := md) h1) hmo
  refine ⟨rfl, lw_in (k := 1) rfl (by decide) hi hLS, rfl, lw_in (k := 2) rfl (by decide) hi hLS, ?_⟩
  refine bL_law_1027 hX hrm hGX hOk ((_, _), (mo, M, I, Ai, Aj)) (by decide) _ _ _ _ _ ⟨Nat.le_of_ble_eq_true rfl, ⟨mo, [.inl _, .inl _], _, _, rfl, hm1.1⟩, by show c + 1 + 0 ≤ 601024; omega, by show s + 6 + 0 ≤ 7293034; omega, Nat.le_of_ble_eq_true rfl, ⟨rfl, hm1⟩, ?_⟩
  rintro v g2 h2 b rfl
  have hr := st_days (md := md) (cs := (h, (nt, wy, lv, tx), (ne, nz, nw), (la, pa, na, so, fd, Wa), (nl, L, U), (fp, Z, N, C), (lg, K, Pa, pf), (ti, lc, lw, lf), ((cm, sg, len, at'), (fa, ro), cf, hl))) rfl hcl hk ho h1 h2
  obtain ⟨I2, f2, hm2, rfl, ho2, hb2, hI2⟩ := hr
  refine bL_law_1033 hX hrm hGX hOk (mo, M, I2) (by decide) _ _ _ _ _ ⟨Nat.le_of_ble_eq_true rfl, ⟨mo, [], _, _, rfl, hm2⟩, by show c + 1 + 0 + 0 ≤ 601024; omega, by show s + 6 + 0 + 0 ≤ 7293034; omega, Nat.le_of_ble_eq_true rfl, ⟨rfl, hm2⟩, ?_⟩
  rintro v g3 ⟨rfl, rfl⟩ t ht
  cases ht
  refine ⟨fun _ => ?_, fun e => absurd rfl e⟩
  refine bL_law_1043 hX _ _ _ _ _ ⟨fun _ => ?_, fun h0 => ?_⟩
  · exact bL_law_1060 hX _ _ _ _ _ (pz_lsub (lv' := [(4, .inl (nI i)), (0, .inr (.inr (some bS))), (1, .inr (.inr (some h))), (2, .inr (.inr (some mo))), (3, .inr (.inr (some out)))]) ⟨rfl, rfl, rfl, rfl, rfl, trivial⟩ (nx _ _ _ len hI2 (by show c + 1 + 0 + 0 + 35 * len ≤ c + 35 * len + 40; omega) (by show s + 6 + 0 + 0 + 471 * len ≤ s + 471 * len + 2440; omega)))
  · refine bL_law_1048 hX _ _ _ _ _ ⟨_, _, _, ho2, ni_in (j := 0) (n := 1) (by omega) (by omega), fun _ => ?_, fun e => absurd (lc_self (hb2 h0)) e⟩
    exact bL_law_1060 hX _ _ _ _ _ (pz_lsub (lv' := [(4, .inl (nI i)), (0, .inr (.inr (some bS))), (1, .inr (.inr (some h))), (2, .inr (.inr (some mo))), (3, .inr (.inr (some out)))]) ⟨rfl, rfl, rfl, rfl, rfl, trivial⟩ (nx _ _ _ len hI2 (by show c + 1 + 0 + 0 + 35 * len ≤ c + 35 * len + 40; omega) (by show s + 6 + 0 + 0 + 471 * len ≤ s + 471 * len + 2440; omega)))
