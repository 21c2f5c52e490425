/-! the law, case by case -/
def lw_rm : Room := { frames := 15, cells := 601024, slots := 7293034, locals := 558 }
theorem lw_in {i LS k : Nat} {d : Int32} (hd : d = nI k) (hk : k < 7) (hi : i + 7 ≤ LS) (hLS : LS ≤ 3584) : vp_in (nI i + d) LS := by
  rw [hd, nI_add]
  exact ni_in (by omega) (by omega)
theorem lc_self {x y : Int64} (h : x = y) : lg_cmp x y = 0 := by
  rw [h]
  unfold lg_cmp
  rw [if_neg (fun e => Int64.lt_irrefl e), if_pos rfl]
/-- the law goes on behind a case -/
def lw_nx (X : pz_C) (sa bS h mo out : Nat) (M : Nat → Nat) (i len c s : Nat) : Prop := ∀ (g' : pz_H) (c' s' len' : Nat), lwI sa g' h mo out M len' → c' + 35 * len' ≤ c + 35 * len + 40 → s' + 471 * len' ≤ s + 471 * len + 2440 → pz_Z X 8 1236 [(4, .inl (nI i)), (0, .inr (.inr (some bS))), (1, .inr (.inr (some h))), (2, .inr (.inr (some mo))), (3, .inr (.inr (some out)))] [] g' c' s'
set_option maxRecDepth 20000 in
theorem lc_line {X : pz_C} {G : pz_Gx} {sa md mi bS LS : Nat} {xs : Nat → Int32} (hX : pz_X X cL_law 8 RL) (hrm : pz_rm X = lw_rm) (hGX : pz_GX X G) (hOk : pz_O5 G sa md mi bS LS xs) {h mo out i len c s : Nat} {M : Nat → Nat} {g : pz_H} (hi : i + 7 ≤ LS) (hLS : LS ≤ 3584) (hc : c + 35 * len + 40 ≤ 601024) (hs : s + 471 * len + 2440 ≤ 7293034) (hI : lwI sa g h mo out M len) (nx : lw_nx X sa bS h mo out M i len c s) : pz_Z X 8 104 [(4, .inl (nI i)), (0, .inr (.inr (some bS))), (1, .inr (.inr (some h))), (2, .inr (.inr (some mo))), (3, .inr (.inr (some out)))] [] g c s := by
  obtain ⟨cs, I, Ai, Aj, cn, f, rfl, rfl, hcl, hmo, hk, ho⟩ := hI
  obtain ⟨h, ⟨nt, wy, lv, tx⟩, ⟨ne, nz, nw⟩, ⟨la, pa, na, so, fd, Wa⟩, ⟨nl, L, U⟩, ⟨fp, Z, N, C⟩, ⟨lg, K, Pa, pf⟩, ⟨ti, lc, lw, lf⟩, ⟨⟨cm, sg, len, at'⟩, ⟨fa, ro⟩, cf, hl⟩⟩ := cs
  dsimp only at hc hs nx ⊢
  replace hk : lwC ne nz nw nl L Z N C K pf len cf I Ai Aj cn := hk
  obtain ⟨a1, a2, a3, a4, a5, a6, a7, a8, a9⟩ := id hcl
  refine bL_law_104 hX hGX hOk _ _ _ _ _ ⟨rfl, lw_in (k := 1) rfl (by decide) hi hLS, ?_⟩
  refine bL_law_112 hX hrm hGX hOk (((h, _), (nt, wy, lv, tx), (ne, nz, nw), (la, pa, na, so, fd, Wa), (nl, L, U)), out, f) (by decide) _ _ _ _ _ ⟨Nat.le_of_ble_eq_true rfl, by show c + 37 ≤ 601024; omega, by show s + 483 ≤ 7293034; omega, Nat.le_of_ble_eq_true rfl, ⟨[.inr (.inr (some h)), .inl _], rfl, ⟨rfl, a1, a2, a3⟩, ⟨_, _, _, _, rfl, a1⟩, ho⟩, ?_⟩
  rintro v g1 h1 r rfl
  have hm1 : moS g1 mo M I Ai Aj := moS_clX (hk_line (sa := sa) (md := md) h1) hmo
  refine ⟨rfl, lw_in (k := 1) rfl (by decide) hi hLS, ?_⟩
  refine bL_law_124 hX hrm hGX hOk ((_, nl), (mo, M, I, Ai, Aj)) (by decide) _ _ _ _ _ ⟨Nat.le_of_ble_eq_true rfl, ⟨mo, [.inl _], _, _, rfl, hm1.1⟩, by show c + 37 + 0 ≤ 601024; omega, by show s + 483 + 0 ≤ 7293034; omega, Nat.le_of_ble_eq_true rfl, ⟨rfl, hk.1.1.2, hk.1.1.1, hm1⟩, ?_⟩
  rintro v g2 h2 b rfl
  have hr := st_line (md := md) hcl hk ho h1 h2
  obtain ⟨I2, f2, hm2, rfl, ho2, hb2, hI2⟩ := hr
  refine bL_law_130 hX hrm hGX hOk (mo, M, I2) (by decide) _ _ _ _ _ ⟨Nat.le_of_ble_eq_true rfl, ⟨mo, [], _, _, rfl, hm2⟩, by show c + 37 + 0 + 0 ≤ 601024; omega, by show s + 483 + 0 + 0 ≤ 7293034; omega, Nat.le_of_ble_eq_true rfl, ⟨rfl, hm2⟩, ?_⟩
  rintro v g3 ⟨rfl, rfl⟩ t ht
  cases ht
  refine ⟨fun _ => ?_, fun e => absurd rfl e⟩
  refine bL_law_140 hX _ _ _ _ _ ⟨fun _ => ?_, fun h0 => ?_⟩
  · exact bL_law_157 hX _ _ _ _ _ (pz_lsub (lv' := [(4, .inl (nI i)), (0, .inr (.inr (some bS))), (1, .inr (.inr (some h))), (2, .inr (.inr (some mo))), (3, .inr (.inr (some out)))]) ⟨rfl, rfl, rfl, rfl, rfl, trivial⟩ (nx _ _ _ len hI2 (by show c + 37 + 0 + 0 + 35 * len ≤ c + 35 * len + 40; omega) (by show s + 483 + 0 + 0 + 471 * len ≤ s + 471 * len + 2440; omega)))
  · refine bL_law_145 hX _ _ _ _ _ ⟨_, _, _, ho2, ni_in (j := 0) (n := 1) (by omega) (by omega), fun _ => ?_, fun e => absurd (lc_self (hb2 h0)) e⟩
    exact bL_law_157 hX _ _ _ _ _ (pz_lsub (lv' := [(4, .inl (nI i)), (0, .inr (.inr (some bS))), (1, .inr (.inr (some h))), (2, .inr (.inr (some mo))), (3, .inr (.inr (some out)))]) ⟨rfl, rfl, rfl, rfl, rfl, trivial⟩ (nx _ _ _ len hI2 (by show c + 37 + 0 + 0 + 35 * len ≤ c + 35 * len + 40; omega) (by show s + 483 + 0 + 0 + 471 * len ≤ s + 471 * len + 2440; omega)))
set_option maxRecDepth 20000 in
theorem lc_stop {X : pz_C} {G : pz_Gx} {sa md mi bS LS : Nat} {xs : Nat → Int32} (hX : pz_X X cL_law 8 RL) (hrm : pz_rm X = lw_rm) (hGX : pz_GX X G) (hOk : pz_O5 G sa md mi bS LS xs) {h mo out i len c s : Nat} {M : Nat → Nat} {g : pz_H} (hi : i + 7 ≤ LS) (hLS : LS ≤ 3584) (hc : c + 35 * len + 40 ≤ 601024) (hs : s + 471 * len + 2440 ≤ 7293034) (hI : lwI sa g h mo out M len) (nx : lw_nx X sa bS h mo out M i len c s) : pz_Z X 8 160 [(4, .inl (nI i)), (0, .inr (.inr (some bS))), (1, .inr (.inr (some h))), (2, .inr (.inr (some mo))), (3, .inr (.inr (some out)))] [] g c s := by
  obtain ⟨cs, I, Ai, Aj, cn, f, rfl, rfl, hcl, hmo, hk, ho⟩ := hI
  obtain ⟨h, ⟨nt, wy, lv, tx⟩, ⟨ne, nz, nw⟩, ⟨la, pa, na, so, fd, Wa⟩, ⟨nl, L, U⟩, ⟨fp, Z, N, C⟩, ⟨lg, K, Pa, pf⟩, ⟨ti, lc, lw, lf⟩, ⟨⟨cm, sg, len, at'⟩, ⟨fa, ro⟩, cf, hl⟩⟩ := cs
  dsimp only at hc hs nx ⊢
  replace hk : lwC ne nz nw nl L Z N C K pf len cf I Ai Aj cn := hk
  obtain ⟨a1, a2, a3, a4, a5, a6, a7, a8, a9⟩ := id hcl
  refine bL_law_160 hX hGX hOk _ _ _ _ _ ⟨rfl, lw_in (k := 1) rfl (by decide) hi hLS, rfl, lw_in (k := 2) rfl (by decide) hi hLS, rfl, lw_in (k := 3) rfl (by decide) hi hLS, rfl, lw_in (k := 4) rfl (by decide) hi hLS, rfl, lw_in (k := 5) rfl (by decide) hi hLS, rfl, lw_in (k := 6) rfl (by decide) hi hLS, ?_⟩
  refine bL_law_219 hX hrm hGX hOk (((h, _, _, _, _), (nt, wy, lv, tx), (ne, nz, nw), (la, pa, na, so, fd, Wa), (nl, L, U)), out, f) (by decide) _ _ _ _ _ ⟨Nat.le_of_ble_eq_true rfl, by show c + 5 ≤ 601024; omega, by show s + 30 ≤ 7293034; omega, Nat.le_of_ble_eq_true rfl, ⟨[.inr (.inr (some h)), .inl _, .inl _, .inr (.inl _), .inr (.inl _)], rfl, ⟨rfl, a1, a2, a3⟩, ⟨_, _, _, _, rfl, a1⟩, ho⟩, ?_⟩
  rintro v g1 h1 r rfl
  have hm1 : moS g1 mo M I Ai Aj := moS_clX (hk_stop (sa := sa) (md := md) h1) hmo
  refine ⟨rfl, lw_in (k := 1) rfl (by decide) hi hLS, rfl, lw_in (k := 2) rfl (by decide) hi hLS, rfl, lw_in (k := 3) rfl (by decide) hi hLS, rfl, lw_in (k := 4) rfl (by decide) hi hLS, rfl, lw_in (k := 5) rfl (by decide) hi hLS, rfl, lw_in (k := 6) rfl (by decide) hi hLS, ?_⟩
  refine bL_law_282 hX hrm hGX hOk (((_, _, _, _), nl, cn), (mo, M, I, Ai, Aj)) (by decide) _ _ _ _ _ ⟨Nat.le_of_ble_eq_true rfl, ⟨mo, [.inl _, .inl _, .inr (.inl _), .inr (.inl _)], _, _, rfl, hm1.1⟩, by show c + 5 + 0 ≤ 601024; omega, by show s + 30 + 0 ≤ 7293034; omega, Nat.le_of_ble_eq_true rfl, ⟨rfl, hk.1.1.1, hk.1.1.2, fun k hk2 => ⟨(hk.1.2.2.2.2 k hk2).1, (hk.1.2.2.2.2 k hk2).2.1⟩, hm1⟩, ?_⟩
  rintro v g2 h2 b rfl
  have hr := st_stop (md := md) hcl hk ho h1 h2
  obtain ⟨I2, f2, hm2, rfl, ho2, hb2, hI2⟩ := hr
  refine bL_law_288 hX hrm hGX hOk (mo, M, I2) (by decide) _ _ _ _ _ ⟨Nat.le_of_ble_eq_true rfl, ⟨mo, [], _, _, rfl, hm2⟩, by show c + 5 + 0 + 0 ≤ 601024; omega, by show s + 30 + 0 + 0 ≤ 7293034; omega, Nat.le_of_ble_eq_true rfl, ⟨rfl, hm2⟩, ?_⟩
  rintro v g3 ⟨rfl, rfl⟩ t ht
  cases ht
  refine ⟨fun _ => ?_, fun e => absurd rfl e⟩
  refine bL_law_298 hX _ _ _ _ _ ⟨fun _ => ?_, fun h0 => ?_⟩
  · exact bL_law_315 hX _ _ _ _ _ (pz_lsub (lv' := [(4, .inl (nI i)), (0, .inr (.inr (some bS))), (1, .inr (.inr (some h))), (2, .inr (.inr (some mo))), (3, .inr (.inr (some out)))]) ⟨rfl, rfl, rfl, rfl, rfl, trivial⟩ (nx _ _ _ len hI2 (by show c + 5 + 0 + 0 + 35 * len ≤ c + 35 * len + 40; omega) (by show s + 30 + 0 + 0 + 471 * len ≤ s + 471 * len + 2440; omega)))
  · refine bL_law_303 hX _ _ _ _ _ ⟨_, _, _, ho2, ni_in (j := 0) (n := 1) (by omega) (by omega), fun _ => ?_, fun e => absurd (lc_self (hb2 h0)) e⟩
    exact bL_law_315 hX _ _ _ _ _ (pz_lsub (lv' := [(4, .inl (nI i)), (0, .inr (.inr (some bS))), (1, .inr (.inr (some h))), (2, .inr (.inr (some mo))), (3, .inr (.inr (some out)))]) ⟨rfl, rfl, rfl, rfl, rfl, trivial⟩ (nx _ _ _ len hI2 (by show c + 5 + 0 + 0 + 35 * len ≤ c + 35 * len + 40; omega) (by show s + 30 + 0 + 0 + 471 * len ≤ s + 471 * len + 2440; omega)))
set_option maxRecDepth 20000 in
theorem lc_exception {X : pz_C} {G : pz_Gx} {sa md mi bS LS : Nat} {xs : Nat → Int32} (hX : pz_X X cL_law 8 RL) (hrm : pz_rm X = lw_rm) (hGX : pz_GX X G) (hOk : pz_O5 G sa md mi bS LS xs) {h mo out i len c s : Nat} {M : Nat → Nat} {g : pz_H} (hi : i + 7 ≤ LS) (hLS : LS ≤ 3584) (hc : c + 35 * len + 40 ≤ 601024) (hs : s + 471 * len + 2440 ≤ 7293034) (hI : lwI sa g h mo out M len) (nx : lw_nx X sa bS h mo out M i len c s) : pz_Z X 8 318 [(4, .inl (nI i)), (0, .inr (.inr (some bS))), (1, .inr (.inr (some h))), (2, .inr (.inr (some mo))), (3, .inr (.inr (some out)))] [] g c s := by
  obtain ⟨cs, I, Ai, Aj, cn, f, rfl, rfl, hcl, hmo, hk, ho⟩ := hI
  obtain ⟨h, ⟨nt, wy, lv, tx⟩, ⟨ne, nz, nw⟩, ⟨la, pa, na, so, fd, Wa⟩, ⟨nl, L, U⟩, ⟨fp, Z, N, C⟩, ⟨lg, K, Pa, pf⟩, ⟨ti, lc, lw, lf⟩, ⟨⟨cm, sg, len, at'⟩, ⟨fa, ro⟩, cf, hl⟩⟩ := cs
  dsimp only at hc hs nx ⊢
  replace hk : lwC ne nz nw nl L Z N C K pf len cf I Ai Aj cn := hk
  obtain ⟨a1, a2, a3, a4, a5, a6, a7, a8, a9⟩ := id hcl
  refine bL_law_318 hX hGX hOk _ _ _ _ _ ⟨rfl, lw_in (k := 1) rfl (by decide) hi hLS, rfl, lw_in (k := 2) rfl (by decide) hi hLS, rfl, lw_in (k := 3) rfl (by decide) hi hLS, rfl, lw_in (k := 4) rfl (by decide) hi hLS, ?_⟩
  have two : ∀ z : Int32, (z = if xs (nI i + 4).toNatClampNeg = 0 then 0 else 1) → (z = 0 ∨ z = 1) := fun z e => by
    rw [e]; split
    · exact Or.inl rfl
    · exact Or.inr rfl
  suffices hgo : ∀ z : Int32, (z = if xs (nI i + 4).toNatClampNeg = 0 then 0 else 1) → pz_Z X 8 361 [(4, .inl (nI i)), (0, .inr (.inr (some bS))), (1, .inr (.inr (some h))), (2, .inr (.inr (some mo))), (3, .inr (.inr (some out)))] [.inl z, .inr (.inl _), .inl _, .inr (.inr (some h))] g c s by
    exact ⟨fun e => bL_law_360 hX _ _ _ _ _ (hgo 0 (by rw [if_pos e])), fun e => bL_law_356 hX _ _ _ _ _ (hgo 1 (by rw [if_neg e]))⟩
  intro z hze
  have hz := two z hze
  refine bL_law_361 hX _ _ _ _ _ ?_
  refine bL_law_362 hX hrm hGX hOk (((h, _, _, _), (nt, wy, lv, tx), (ne, nz, nw), (la, pa, na, so, fd, Wa), (nl, L, U)), out, f) (by decide) _ _ _ _ _ ⟨Nat.le_of_ble_eq_true rfl, by show c + 4 ≤ 601024; omega, by show s + 21 ≤ 7293034; omega, Nat.le_of_ble_eq_true rfl, ⟨[.inr (.inr (some h)), .inl _, .inr (.inl _), .inl _], rfl, ⟨rfl, hz, hk.1.2.1.2.1, a1, a2, a3, hk.2.2.2.2.2.2⟩, ⟨_, _, _, _, rfl, a1⟩, ho⟩, ?_⟩
  rintro v g1 h1 r rfl
  have hm1 : moS g1 mo M I Ai Aj := moS_clX (hk_exception (sa := sa) (md := md) h1) hmo
  refine ⟨rfl, lw_in (k := 1) rfl (by decide) hi hLS, rfl, lw_in (k := 2) rfl (by decide) hi hLS, rfl, lw_in (k := 3) rfl (by decide) hi hLS, rfl, lw_in (k := 4) rfl (by decide) hi hLS, ?_⟩
  suffices hgo : pz_Z X 8 410 ((5, .inl r) :: [(4, .inl (nI i)), (0, .inr (.inr (some bS))), (1, .inr (.inr (some h))), (2, .inr (.inr (some mo))), (3, .inr (.inr (some out)))]) [.inl z, .inr (.inl _), .inl _, .inr (.inr (some mo))] g1 _ _ by
    exact ⟨fun e => bL_law_409 hX _ _ _ _ _ (by rw [if_pos e] at hze; rw [hze] at hgo; exact hgo), fun e => bL_law_405 hX _ _ _ _ _ (by rw [if_neg e] at hze; rw [hze] at hgo; exact hgo)⟩
  refine bL_law_410 hX hrm hGX hOk (((_, _, _), nl, ne), (mo, M, I, Ai, Aj)) (by decide) _ _ _ _ _ ⟨Nat.le_of_ble_eq_true rfl, ⟨mo, [.inl _, .inr (.inl _), .inl _], _, _, rfl, hm1.1⟩, by show c + 4 + 0 ≤ 601024; omega, by show s + 21 + 0 ≤ 7293034; omega, Nat.le_of_ble_eq_true rfl, ⟨rfl, hz, hk.1.1.1, hk.1.1.2, hk.1.2.1.1, hk.1.2.1.2.1, hm1⟩, ?_⟩
  rintro v g2 h2 b rfl
  have hr := st_exception (md := md) hz hcl hk ho h1 h2
  obtain ⟨I2, f2, hm2, rfl, ho2, hb2, hI2⟩ := hr
  refine bL_law_416 hX hrm hGX hOk (mo, M, I2) (by decide) _ _ _ _ _ ⟨Nat.le_of_ble_eq_true rfl, ⟨mo, [], _, _, rfl, hm2⟩, by show c + 4 + 0 + 0 ≤ 601024; omega, by show s + 21 + 0 + 0 ≤ 7293034; omega, Nat.le_of_ble_eq_true rfl, ⟨rfl, hm2⟩, ?_⟩
  rintro v g3 ⟨rfl, rfl⟩ t ht
  cases ht
  refine ⟨fun _ => ?_, fun e => absurd rfl e⟩
  refine bL_law_426 hX _ _ _ _ _ ⟨fun _ => ?_, fun h0 => ?_⟩
  · exact bL_law_443 hX _ _ _ _ _ (pz_lsub (lv' := [(4, .inl (nI i)), (0, .inr (.inr (some bS))), (1, .inr (.inr (some h))), (2, .inr (.inr (some mo))), (3, .inr (.inr (some out)))]) ⟨rfl, rfl, rfl, rfl, rfl, trivial⟩ (nx _ _ _ len hI2 (by show c + 4 + 0 + 0 + 35 * len ≤ c + 35 * len + 40; omega) (by show s + 21 + 0 + 0 + 471 * len ≤ s + 471 * len + 2440; omega)))
  · refine bL_law_431 hX _ _ _ _ _ ⟨_, _, _, ho2, ni_in (j := 0) (n := 1) (by omega) (by omega), fun _ => ?_, fun e => absurd (lc_self (hb2 h0)) e⟩
    exact bL_law_443 hX _ _ _ _ _ (pz_lsub (lv' := [(4, .inl (nI i)), (0, .inr (.inr (some bS))), (1, .inr (.inr (some h))), (2, .inr (.inr (some mo))), (3, .inr (.inr (some out)))]) ⟨rfl, rfl, rfl, rfl, rfl, trivial⟩ (nx _ _ _ len hI2 (by show c + 4 + 0 + 0 + 35 * len ≤ c + 35 * len + 40; omega) (by show s + 21 + 0 + 0 + 471 * len ≤ s + 471 * len + 2440; omega)))
