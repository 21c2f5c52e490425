/-! the law's loop and start -/
theorem lw_gt {i LS : Nat} (hLS : LS ≤ 3584) (hi : i ≤ 10000) : (nI LS - 7 < nI i) ↔ LS < i + 7 := by
  rw [i3_lt, i3_sub (by rw [nI_toInt (by omega), show (7 : Int32).toInt = 7 from rfl]; omega) (by rw [nI_toInt (by omega), show (7 : Int32).toInt = 7 from rfl]; omega), nI_toInt (by omega), nI_toInt (by omega), show (7 : Int32).toInt = 7 from rfl]
  omega
theorem ni_i7 {i : Nat} : some (Sum.inl (nI i + 7) : pz_V) = some (Sum.inl (nI (i + 7))) := by
  rw [show (7 : Int32) = nI 7 from rfl, nI_add]
set_option maxRecDepth 20000 in
theorem lw_loop {X : pz_C} {G : pz_Gx} {sa md mi bS LS : Nat} {xs : Nat → Int32} {E : Option pz_V → pz_H → Prop} (hX : pz_X X cL_law 8 RL) (hrm : pz_rm X = lw_rm) (hGX : pz_GX X G) (hOk : pz_O5 G sa md mi bS LS xs) (hR : pz_Rt X cL_law 8 (some .boolean) lw_rm E) (hE : ∀ g, E (some (.inl 1)) g) {h mo out : Nat} {M : Nat → Nat} (hLS : LS ≤ 3584) : ∀ (k i len c s : Nat) (g : pz_H), LS < i + 7 * (k + 1) → i ≤ 4000 → c + 35 * len + 40 * k ≤ 601024 → s + 471 * len + 2440 * k ≤ 7293034 → lwI sa g h mo out M len → pz_Z X 8 23 [(4, .inl (nI i)), (0, .inr (.inr (some bS))), (1, .inr (.inr (some h))), (2, .inr (.inr (some mo))), (3, .inr (.inr (some out)))] [] g c s := by
  intro k
  induction k with
  | zero =>
    intro i len c s g hk hi hc hs hI
    refine bL_law_23 hX hGX hOk _ _ _ _ _ ⟨rfl, fun _ => ?_, fun e => absurd ((lw_gt hLS (by omega)).mpr (by omega)) e⟩
    exact bL_law_1242 hX hR _ _ _ _ _ ⟨Or.inr rfl, by show c ≤ 601024; omega, by show s ≤ 7293034; omega, hE _⟩
  | succ k ih =>
    intro i len c s g hk hi hc hs hI
    refine bL_law_23 hX hGX hOk _ _ _ _ _ ⟨rfl, fun _ => ?_, fun e => ?_⟩
    · exact bL_law_1242 hX hR _ _ _ _ _ ⟨Or.inr rfl, by show c ≤ 601024; omega, by show s ≤ 7293034; omega, hE _⟩
    have hi7 : i + 7 ≤ LS := Nat.not_lt.mp (fun q => e ((lw_gt hLS (by omega)).mpr q))
    have nx : lw_nx X sa bS h mo out M i len c s := by
      intro g' c' s' len' hI' hc' hs'
      refine bL_law_1236 hX _ _ _ _ _ ?_
      refine pz_lsub (lv' := [(4, .inl (nI (i + 7))), (0, .inr (.inr (some bS))), (1, .inr (.inr (some h))), (2, .inr (.inr (some mo))), (3, .inr (.inr (some out)))]) ⟨ni_i7, rfl, rfl, rfl, rfl, trivial⟩ ?_
      exact ih (i + 7) len' c' s' g' (by omega) (by omega) (by omega) (by omega) hI'
    have hc40 : c + 35 * len + 40 ≤ 601024 := by omega
    have hs24 : s + 471 * len + 2440 ≤ 7293034 := by omega
    refine bL_law_33 hX hGX hOk _ _ _ _ _ ⟨rfl, ni_in (by omega) (by omega), fun j hj _ => ?_, fun _ => ?_⟩
    · match j, hj with
      | 0, _ => exact lc_line hX hrm hGX hOk hi7 hLS hc40 hs24 hI nx
      | 1, _ => exact lc_stop hX hrm hGX hOk hi7 hLS hc40 hs24 hI nx
      | 2, _ => exact lc_exception hX hrm hGX hOk hi7 hLS hc40 hs24 hI nx
      | 3, _ => exact lc_zone hX hrm hGX hOk hi7 hLS hc40 hs24 hI nx
      | 4, _ => exact lc_least hX hrm hGX hOk hi7 hLS hc40 hs24 hI nx
      | 5, _ => exact lc_change hX hrm hGX hOk hi7 hLS hc40 hs24 hI nx
      | 6, _ => exact lc_earliest hX hrm hGX hOk hi7 hLS hc40 hs24 hI nx
      | 7, _ => exact lc_step hX hrm hGX hOk hi7 hLS hc40 hs24 hI nx
      | 8, _ => exact lc_days hX hrm hGX hOk hi7 hLS hc40 hs24 hI nx
      | 9, _ => exact lc_next hX hrm hGX hOk hi7 hLS hc40 hs24 hI nx
      | 10, _ => exact lc_sign hX hrm hGX hOk hi7 hLS hc40 hs24 hI nx
      | 11, _ => exact lc_read hX hrm hGX hOk hi7 hLS hc40 hs24 hI nx
      | j + 12, hj => omega
    · exact nx g c s len hI (by omega) (by omega)
def lr_0 : lr_T := ((0, 0), (fun _ => 0, fun _ => 0, fun _ => 0), (0, 0, none, none), (fun _ => 0, fun _ => 0, fun _ => 0), ([], []))
theorem lwC_0 : lwC 0 0 0 0 (fun _ => lr_0) (fun _ => []) (fun _ => 0) (fun _ => 0) 0 (fun _ _ => 0) 0 (fun _ => 0) (fun _ => 0) (fun _ _ => 0) (fun _ _ => 0) (fun _ => 0) := by
  refine ⟨⟨⟨rfl, by omega⟩, ⟨rfl, by omega, fun k hk => by omega⟩, ⟨rfl, by omega⟩, ⟨rfl, by omega⟩, fun l hl => by omega⟩, ⟨fun l hl => by omega, fun p hp => ?_, fun p hp => ⟨rfl, (by show (0 : Int) ≤ (0 : Int32).toInt; decide), (by show (0 : Int32).toInt ≤ 100000; decide)⟩⟩, ⟨fun k hk => by omega, fun k hk => by omega, fun j k hj => by omega⟩, ⟨rfl, by omega, fun i w hi => by omega⟩, ⟨rfl, by omega, rfl⟩, fun p hp => rfl, fun i hi => by omega⟩
  exact ⟨List.Pairwise.nil, (fun q hq => by cases hq), (fun k hk => by omega), (fun q hq => by cases hq)⟩
set_option maxRecDepth 20000 in
theorem lw_go {X : pz_C} {G : pz_Gx} {sa md mi bS LS : Nat} {xs : Nat → Int32} {E : Option pz_V → pz_H → Prop} (hX : pz_X X cL_law 8 RL) (hrm : pz_rm X = lw_rm) (hGX : pz_GX X G) (hOk : pz_O5 G sa md mi bS LS xs) (hR : pz_Rt X cL_law 8 (some .boolean) lw_rm E) (hE : ∀ g, E (some (.inl 1)) g) (hLS : LS ≤ 3584) : pz_Z X 8 0 [(0, .inr (.inr (some bS)))] [] (fun _ => none) 0 0 := by
  refine bL_law_0 hX hrm _ _ _ _ _ ⟨Nat.le_of_ble_eq_true rfl, Nat.le_of_ble_eq_true rfl, [0], fun q hq => ⟨rfl, ?_⟩⟩
  refine bL_law_4 hX hrm hGX hOk (q, fun _ => none) (by decide) _ _ _ _ _ ⟨Nat.le_of_ble_eq_true rfl, ⟨q, [], rfl⟩, Nat.le_of_ble_eq_true rfl, Nat.le_of_ble_eq_true rfl, Nat.le_of_ble_eq_true rfl, ⟨rfl, up_at, trivial⟩, ?_⟩
  rintro v g1 ⟨rfl, -, nt, wy, lv, tx, n1, ⟨la, pa, na, so, Wa, fp, m1, m2, m3, m4, m5⟩, ⟨lg, Pa, nW⟩, ⟨ti, nL⟩, ⟨cm, sg, nT, nC⟩⟩ -
  refine ⟨Nat.le_of_ble_eq_true rfl, Nat.le_of_ble_eq_true rfl, [100], fun q2 hq2 => ⟨rfl, ?_⟩⟩
  refine bL_law_12 hX hrm hGX hOk q2 (by decide) _ _ _ _ _ ⟨Nat.le_of_ble_eq_true rfl, ⟨q2, [], rfl⟩, Nat.le_of_ble_eq_true rfl, Nat.le_of_ble_eq_true rfl, Nat.le_of_ble_eq_true rfl, ⟨rfl, up_at⟩, ?_⟩
  rintro v g3 ⟨rfl, t3, M, hmo⟩ -
  refine ⟨by decide, by decide, Nat.le_of_ble_eq_true rfl, Nat.le_of_ble_eq_true rfl, [17], fun q3 hq3 => ?_⟩
  have T : hg mdX g1 (va_up g3 q3 (some ([17], ou_c (fun _ => 0)))) := hg_new (hg_tr (hg_new hg_rf hq2) (hg_mono t3 (fun b hb => Or.inr (Or.inl hb)))) hq3
  have hI : lwI sa (va_up g3 q3 (some ([17], ou_c (fun _ => 0)))) q q2 q3 M 0 := by
    refine ⟨(q, (nt, wy, lv, tx), (0, 0, 0), (la, pa, na, so, 0, Wa), (0, (fun _ => lr_0), 0), (fp, (fun _ => []), (fun _ => 0), (fun _ => 0)), (lg, 0, Pa, (fun _ _ => 0)), (ti, 0, 0, (fun _ => 0)), ((cm, sg, 0, 0), (0, 0), (fun _ => 0), (fun _ => 0))), (fun _ => 0), (fun _ _ => 0), (fun _ _ => 0), (fun _ => 0), (fun _ => 0), rfl, rfl, ?_, moS_clX (hg_new hg_rf hq3) hmo, lwC_0, up_at⟩
    refine clS_mdX T ⟨n1, m1, ⟨by omega, lsE_congr (fun i hi => by omega) m2, fun i hi => by omega, fun i j hi => by omega⟩, m3, ⟨⟨fun _ _ => 0, m4⟩, _, m5⟩, nW, nL, nT, nC⟩
  refine pz_lsub (lv' := [(4, .inl (nI 0)), (0, .inr (.inr (some bS))), (1, .inr (.inr (some q))), (2, .inr (.inr (some q2))), (3, .inr (.inr (some q3)))]) ⟨rfl, rfl, rfl, rfl, rfl, trivial⟩ ?_
  exact lw_loop hX hrm hGX hOk hR hE hLS 512 0 0 _ _ _ (by omega) (by omega) (Nat.le_of_ble_eq_true rfl) (Nat.le_of_ble_eq_true rfl) hI
