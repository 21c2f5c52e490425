/-! LineTimes$Net: findEntry, findLeg: the first k of k, k + 1, .. (m of them) with P -/
def fs_s (P : Nat → Bool) : Nat → Nat → Option Nat
  | _, 0 => none
  | k, m + 1 => if P k = true then some k else fs_s P (k + 1) m
theorem fs_lt {P : Nat → Bool} : ∀ {m k i : Nat}, fs_s P k m = some i → k ≤ i ∧ i < k + m ∧ P i = true
  | 0, _, _, h => by cases h
  | m + 1, k, i, h => by
    unfold fs_s at h
    split at h
    · cases h; exact ⟨Nat.le_refl _, by omega, by assumption⟩
    · have := fs_lt h
      exact ⟨by omega, by omega, this.2.2⟩
def fs_i : Option Nat → Int32
  | none => -1
  | some k => nI k
def fe_p (f1 A B : Nat → Int32) (lb : Nat) (w C : Nat → Int32) (left k : Nat) : Bool := decide (B k ≤ A left) && nt_ce (w (f1 k).toNatClampNeg) lb (C (f1 k).toNatClampNeg) (B k)
set_option maxRecDepth 20000 in
theorem bX4_findEntry_0 {X : pz_C} (hX : pz_X X cX4_findEntry 7 RX4) : ∀ lv st g c s, (zo_ic 1 (0) (zo_is 2 5 (pz_Z X 7))) 0 lv st g c s → pz_Z X 7 0 lv st g c s := (zs_iconst hX dX4_findEntry_0 (by decide) (zs_istore hX dX4_findEntry_1 (by decide) (fun _ _ _ _ _ h => h)))
set_option maxRecDepth 20000 in
theorem bX4_findEntry_3 {X : pz_C} (hX : pz_X X cX4_findEntry 7 RX4) : ∀ lv st g c s, (zo_il 2 5 (zo_il 1 3 (zo_ic_ge 60 (pz_Z X 7)))) 3 lv st g c s → pz_Z X 7 3 lv st g c s := (zs_iload hX dX4_findEntry_3 (zs_iload_n hX dX4_findEntry_5 rfl (zs_ic_ge hX dX4_findEntry_6 (by decide) (fun _ _ _ _ _ _ h => h))))
set_option maxRecDepth 20000 in
theorem bX4_findEntry_9 {X : pz_C} (hX : pz_X X cX4_findEntry 7 RX4) : ∀ lv st g c s, (zo_al 1 1 (zo_get 5 9 (zo_il 1 2 (zo_aald 6 (zo_il 2 5 (zo_iald (zo_is 2 6 (zo_il 2 6 (zo_al 1 1 (zo_get 5 8 (zo_il 1 2 (zo_aald 6 (zo_il 1 3 (zo_iald (zo_ic_gt 54 (pz_Z X 7)))))))))))))))) 9 lv st g c s → pz_Z X 7 9 lv st g c s := (zs_aload_n hX dX4_findEntry_9 rfl (zs_get hX (C := RX3) (T := TX3) (N := 11) rfl in_X3 (by decide) mw_ab24417a dX4_findEntry_10 (zs_iload_n hX dX4_findEntry_13 rfl (zs_aald hX (ty := (.array .int)) (fun _ => rfl) rfl dX4_findEntry_14 (zs_iload hX dX4_findEntry_15 (zs_iald hX dX4_findEntry_17 (zs_istore hX dX4_findEntry_18 (by decide) (zs_iload hX dX4_findEntry_20 (zs_aload_n hX dX4_findEntry_22 rfl (zs_get hX (C := RX3) (T := TX3) (N := 11) rfl in_X3 (by decide) mw_c4b4b32a dX4_findEntry_23 (zs_iload_n hX dX4_findEntry_26 rfl (zs_aald hX (ty := (.array .int)) (fun _ => rfl) rfl dX4_findEntry_27 (zs_iload_n hX dX4_findEntry_28 rfl (zs_iald hX dX4_findEntry_29 (zs_ic_gt hX dX4_findEntry_30 (by decide) (fun _ _ _ _ _ _ h => h))))))))))))))))
set_option maxRecDepth 20000 in
theorem bX4_findEntry_33 {X : pz_C} (hX : pz_X X cX4_findEntry 7 RX4) : ∀ lv st g c s, (zo_al 1 0 (zo_al 1 1 (zo_get 5 1 (zo_il 2 5 (zo_iald (zo_il 2 6 (zo_il 2 4 (pz_Z X 7)))))))) 33 lv st g c s → pz_Z X 7 33 lv st g c s := (zs_aload_n hX dX4_findEntry_33 rfl (zs_aload_n hX dX4_findEntry_34 rfl (zs_get hX (C := RX3) (T := TX3) (N := 11) rfl in_X3 (by decide) mw_6bb37aef dX4_findEntry_35 (zs_iload hX dX4_findEntry_38 (zs_iald hX dX4_findEntry_40 (zs_iload hX dX4_findEntry_41 (zs_iload hX dX4_findEntry_43 (fun _ _ _ _ _ h => h))))))))
set_option maxRecDepth 20000 in
theorem bX4_findEntry_45 {X : pz_C} {G : pz_Gx} {rm : Room} (hX : pz_X X cX4_findEntry 7 RX4) (hrm : pz_rm X = rm) (hGX : pz_GX X G) (hOk : pz_OK G) (gh : gt_X4_canEnter) (hr_X4_canEnter : rm_X4_canEnter.frames + 1 ≤ rm.frames ∧ 8 + (5 + 11) + rm_X4_canEnter.locals ≤ rm.locals) : ∀ lv st g c s, (zo_cV rm 6 3 3 rm_X4_canEnter.cells rm_X4_canEnter.slots (pr_X4_canEnter gh) (po_X4_canEnter gh) (zo_kz (zo_if_eq 54 (pz_Z X 7)))) 45 lv st g c s → pz_Z X 7 45 lv st g c s := by
  subst hrm
  exact (zs_csV hX hGX (C := RX4) (T := TX4) (N := 5) rfl (ct_X4_canEnter hOk gh) mw_2e94ed91 mw_549f7f9f mw_c0c583b8 mw_5ae0c28b mw_8433c21b (by decide +kernel) hr_X4_canEnter dX4_findEntry_45 (zs_kz (zs_if_eq hX dX4_findEntry_48 (by decide) (fun _ _ _ _ _ _ h => h))))
set_option maxRecDepth 20000 in
theorem bX4_findEntry_51 {X : pz_C} {rm : Room} {E : Option pz_V → pz_H → Prop} (hX : pz_X X cX4_findEntry 7 RX4) (hR : pz_Rt X cX4_findEntry 7 (some .int) rm E) : ∀ lv st g c s, (zo_il 2 5 (zo_ri rm E)) 51 lv st g c s → pz_Z X 7 51 lv st g c s := (zs_iload hX dX4_findEntry_51 (zs_ri hR dX4_findEntry_53))
set_option maxRecDepth 20000 in
theorem bX4_findEntry_54 {X : pz_C} (hX : pz_X X cX4_findEntry 7 RX4) : ∀ lv st g c s, (zo_inc 5 (1) (zo_goto 3 (pz_Z X 7))) 54 lv st g c s → pz_Z X 7 54 lv st g c s := (zs_iinc hX dX4_findEntry_54 (by decide) (by decide) (zs_goto hX dX4_findEntry_57 (by decide) (fun _ _ _ _ _ _ h => h)))
set_option maxRecDepth 20000 in
theorem bX4_findEntry_60 {X : pz_C} {rm : Room} {E : Option pz_V → pz_H → Prop} (hX : pz_X X cX4_findEntry 7 RX4) (hR : pz_Rt X cX4_findEntry 7 (some .int) rm E) : ∀ lv st g c s, (zo_ic 1 (-1) (zo_ri rm E)) 60 lv st g c s → pz_Z X 7 60 lv st g c s := (zs_iconst hX dX4_findEntry_60 (by decide) (zs_ri hR dX4_findEntry_61))
def rm_X4_findEntry : Room := { frames := 1, cells := 0, slots := 0, locals := 24 }
abbrev gt_X4_findEntry : Type := (Nat × Nat × Nat × Nat × Nat) × (Nat × Nat × Nat × Nat) × Int32 × (Nat → Nat) × (Nat → Int32) × (Nat × (Nat → Nat) × (Nat → Nat) × (Nat → Nat)) × (Int32 × Nat × Option Nat × Option Nat) × ((Nat → Int32) × (Nat → Int32) × (Nat → Int32)) × ((Nat → Int32) × (Nat → Int32)) × ((Nat → Nat) × (Nat → List (Int32 × Int32)) × (Nat → Int32) × (Nat → Int32))
def pr_X4_findEntry : gt_X4_findEntry → List pz_V → pz_H → Prop := fun ((nt, h, row, left, lb), (la, pa, na, sa), fd, Wa, w, (u, La, Ra, Rd), (wd, n, dw, lw), (f1, f2, f3), (A, B), (fp, Z, N, C)) av g => av = [.inr (.inr (some nt)), .inr (.inr (some h)), .inl (nI row), .inl (nI left), .inl (nI lb)] ∧ row < 13 ∧ lb < 7 ∧ left < n ∧ n ≤ 12 ∧ ntS g nt la pa na sa fd Wa ∧ lnH g u h La Ra Rd wd n dw lw f1 f2 f3 ∧ (∀ k, k < n → ∃ p, p < 100 ∧ f1 k = nI p) ∧ plS g pa fp Z N C ∧ g (Ra row) = some ([36, u, row], ar_i 12 A) ∧ g (Rd row) = some ([38, u, row], ar_i 12 B) ∧ g (Wa lb) = some ([11, lb], ar_i 100 w)
def po_X4_findEntry : gt_X4_findEntry → List pz_V → pz_H → Option pz_V → pz_H → Prop := fun ((_, _, _, left, lb), _, _, _, w, _, _, (f1, _, _), (A, B), (_, _, _, C)) _ g v g' => g' = g ∧ v = some (.inl (fs_i (fs_s (fe_p f1 A B lb w C left) 0 left)))
set_option maxRecDepth 20000 in
set_option maxHeartbeats 4000000 in
theorem ct_X4_findEntry {G : pz_Gx} (hOk : pz_OK G) (gh : gt_X4_findEntry) : pz_M G yX4_findEntry cX4_findEntry 7 (some .int) rm_X4_findEntry (pr_X4_findEntry gh) (po_X4_findEntry gh) := by
  obtain ⟨⟨nt, h, row, left, lb⟩, ⟨la, pa, na, sa⟩, fd, Wa, w, ⟨u, La, Ra, Rd⟩, ⟨wd, n, dw, lw⟩, ⟨f1, f2, f3⟩, ⟨A, B⟩, fp, Z, N, C⟩ := gh
  refine pz_ofZ (by decide) hOk.1 (Or.inr (Or.inl rfl)) ?_ ?_
  · rintro av g ⟨rfl, -⟩
    exact Nat.le_of_ble_eq_true rfl
  · rintro X hX hGX hrm - av g ⟨rfl, hrow, hlb, hlf, hn, hnt, hL, hpl, hpS, hA, hB, hw⟩ hR
    obtain ⟨hh, h1, h2, h3, ⟨o8, h8, ho8⟩, o9, h9, ho9⟩ := id hL
    have hrc : (nI row).toNatClampNeg = row := ni_cl (by omega)
    have hri : vp_in (nI row) 13 := ni_in hrow (by omega)
    have loop : ∀ (m k : Nat), k + m = left → fs_s (fe_p f1 A B lb w C left) k m = fs_s (fe_p f1 A B lb w C left) 0 left → pz_Z X 7 3 [(5, .inl (nI k)), (0, .inr (.inr (some nt))), (1, .inr (.inr (some h))), (2, .inl (nI row)), (3, .inl (nI left)), (4, .inl (nI lb))] [] g 0 0 := by
      intro m
      induction m with
      | zero =>
        intro k hk he
        obtain rfl : k = left := by omega
        refine bX4_findEntry_3 hX _ _ _ _ _ ⟨fun _ => ?_, fun q => absurd (Int32.le_refl _) q⟩
        exact bX4_findEntry_60 hX hR _ _ _ _ _ ⟨Nat.le_refl _, Nat.le_refl _, rfl, by rw [← he]; rfl⟩
      | succ m ih =>
        intro k hk he
        obtain ⟨p, hp, hfp⟩ := hpl k (by omega)
        have hpc : (nI p).toNatClampNeg = p := ni_cl (by omega)
        have hkc : (nI k).toNatClampNeg = k := ni_cl (by omega)
        have hlc : (nI left).toNatClampNeg = left := ni_cl (by omega)
        have hk12 : vp_in (nI k) 12 := ni_in (by omega) (by omega)
        have hl12 : vp_in (nI left) 12 := ni_in (by omega) (by omega)
        have hP : fe_p f1 A B lb w C left k = (decide (B k ≤ A left) && nt_ce (w p) lb (C p) (B k)) := by
          unfold fe_p
          rw [hfp, hpc]
        have no : fe_p f1 A B lb w C left k = false → ∀ lv : pz_L, pz_all lv [(5, .inl (nI k)), (0, .inr (.inr (some nt))), (1, .inr (.inr (some h))), (2, .inl (nI row)), (3, .inl (nI left)), (4, .inl (nI lb))] → pz_Z X 7 54 lv [] g 0 0 := by
          intro hf lv hlv
          refine pz_lsub hlv ?_
          refine bX4_findEntry_54 hX _ _ _ _ _ ?_
          refine pz_lsub (lv' := [(5, .inl (nI (k + 1))), (0, .inr (.inr (some nt))), (1, .inr (.inr (some h))), (2, .inl (nI row)), (3, .inl (nI left)), (4, .inl (nI lb))]) ⟨ni_inc, rfl, rfl, rfl, rfl, rfl, trivial⟩ ?_
          refine ih (k + 1) (by omega) ?_
          rw [← he]
          show _ = if fe_p f1 A B lb w C left k = true then some k else fs_s _ (k + 1) m
          rw [if_neg (by rw [hf]; decide)]
        refine bX4_findEntry_3 hX _ _ _ _ _ ⟨fun q => absurd ((ni_le (by omega) (by omega)).mp q) (by omega), fun _ => ?_⟩
        refine bX4_findEntry_9 hX _ _ _ _ _ ⟨_, _, _, hh, rfl, _, _, _, h9, hri, ?_⟩
        rw [hrc, ho9 row hrow]
        refine ⟨_, _, _, hB, hk12, _, _, _, hh, rfl, _, _, _, h8, hri, ?_⟩
        rw [hrc, ho8 row hrow, hkc]
        refine ⟨_, _, _, hA, hl12, ?_⟩
        rw [hlc]
        refine ⟨fun q => ?_, fun q => ?_⟩
        · exact no (by rw [hP, decide_eq_false (Int32.not_le.mpr q)]; rfl) _ ⟨rfl, rfl, rfl, rfl, rfl, rfl, trivial⟩
        · refine bX4_findEntry_33 hX _ _ _ _ _ ⟨_, _, _, hh, rfl, _, _, _, h1, hk12, ?_⟩
          rw [hkc, hfp]
          refine bX4_findEntry_45 hX hrm hGX hOk ((nt, p, B k, lb), (la, pa, na, sa), fd, Wa, w, (fp, Z, N, C)) (by decide) _ _ _ _ _ ⟨Nat.le_of_ble_eq_true rfl, ⟨nt, [.inl (nI p), .inl (B k), .inl (nI lb)], [1], _, rfl, hnt.1⟩, Nat.le_of_ble_eq_true rfl, Nat.le_of_ble_eq_true rfl, Nat.le_of_ble_eq_true rfl, ⟨rfl, hp, hlb, hnt, hw, hpS⟩, ?_⟩
          rintro v g3 ⟨rfl, rfl⟩ x hx -
          cases hx
          by_cases hce : nt_ce (w p) lb (C p) (B k) = true
          · rw [if_pos hce]
            refine ⟨fun z => absurd z (by decide), fun _ => ?_⟩
            refine bX4_findEntry_51 hX hR _ _ _ _ _ ⟨Nat.le_refl _, Nat.le_refl _, rfl, ?_⟩
            rw [← he]
            show _ = some (Sum.inl (fs_i (if fe_p f1 A B lb w C left k = true then some k else fs_s _ (k + 1) m)))
            rw [if_pos (by rw [hP, decide_eq_true (Int32.not_lt.mp q), hce]; rfl)]
            rfl
          · rw [if_neg hce]
            refine ⟨fun _ => ?_, fun z => absurd rfl z⟩
            exact no (by rw [hP, Bool.eq_false_iff.mpr hce, Bool.and_false]) _ ⟨rfl, rfl, rfl, rfl, rfl, rfl, trivial⟩
    refine bX4_findEntry_0 hX _ _ _ _ _ ?_
    refine pz_lsub (lv' := [(5, .inl (nI 0)), (0, .inr (.inr (some nt))), (1, .inr (.inr (some h))), (2, .inl (nI row)), (3, .inl (nI left)), (4, .inl (nI lb))]) ⟨rfl, rfl, rfl, rfl, rfl, rfl, trivial⟩ ?_
    exact loop left 0 (by omega) rfl
/-- the leg that ends at a place as it is reached with lb + 1 legs: where it is left, where it is entered -/
def fl_q (f1 A B : Nat → Int32) (lb : Nat) (w wl C : Nat → Int32) (pl left : Nat) : Bool := decide (f1 left = nI pl) && (decide (A left = wl pl) && (fs_s (fe_p f1 A B lb w C left) 0 left).isSome)
set_option maxRecDepth 20000 in
theorem bX4_findLeg_0 {X : pz_C} (hX : pz_X X cX4_findLeg 9 RX4) : ∀ lv st g c s, (zo_ic 1 (1) (zo_is 2 6 (pz_Z X 9))) 0 lv st g c s → pz_Z X 9 0 lv st g c s := (zs_iconst hX dX4_findLeg_0 (by decide) (zs_istore hX dX4_findLeg_1 (by decide) (fun _ _ _ _ _ h => h)))
set_option maxRecDepth 20000 in
theorem bX4_findLeg_3 {X : pz_C} (hX : pz_X X cX4_findLeg 9 RX4) : ∀ lv st g c s, (zo_il 2 6 (zo_al 1 2 (zo_get 5 4 (zo_ic_ge 108 (pz_Z X 9))))) 3 lv st g c s → pz_Z X 9 3 lv st g c s := (zs_iload hX dX4_findLeg_3 (zs_aload_n hX dX4_findLeg_5 rfl (zs_get hX (C := RX3) (T := TX3) (N := 11) rfl in_X3 (by decide) mw_7ddd2f0e dX4_findLeg_6 (zs_ic_ge hX dX4_findLeg_9 (by decide) (fun _ _ _ _ _ _ h => h)))))
set_option maxRecDepth 20000 in
theorem bX4_findLeg_12 {X : pz_C} (hX : pz_X X cX4_findLeg 9 RX4) : ∀ lv st g c s, (zo_al 1 2 (zo_get 5 8 (zo_il 1 3 (zo_aald 6 (zo_il 2 6 (zo_iald (zo_is 2 7 (zo_al 1 2 (zo_get 5 1 (zo_il 2 6 (zo_iald (zo_il 2 4 (zo_ic_ne 102 (pz_Z X 9)))))))))))))) 12 lv st g c s → pz_Z X 9 12 lv st g c s := (zs_aload_n hX dX4_findLeg_12 rfl (zs_get hX (C := RX3) (T := TX3) (N := 11) rfl in_X3 (by decide) mw_c4b4b32a dX4_findLeg_13 (zs_iload_n hX dX4_findLeg_16 rfl (zs_aald hX (ty := (.array .int)) (fun _ => rfl) rfl dX4_findLeg_17 (zs_iload hX dX4_findLeg_18 (zs_iald hX dX4_findLeg_20 (zs_istore hX dX4_findLeg_21 (by decide) (zs_aload_n hX dX4_findLeg_23 rfl (zs_get hX (C := RX3) (T := TX3) (N := 11) rfl in_X3 (by decide) mw_6bb37aef dX4_findLeg_24 (zs_iload hX dX4_findLeg_27 (zs_iald hX dX4_findLeg_29 (zs_iload hX dX4_findLeg_30 (zs_ic_ne hX dX4_findLeg_32 (by decide) (fun _ _ _ _ _ _ h => h))))))))))))))
set_option maxRecDepth 20000 in
theorem bX4_findLeg_35 {X : pz_C} (hX : pz_X X cX4_findLeg 9 RX4) : ∀ lv st g c s, (zo_il 2 7 (zo_al 1 0 (zo_get 6 2 (zo_il 2 5 (zo_aald 6 (zo_il 2 4 (zo_iald (zo_ic_eq 53 (pz_Z X 9))))))))) 35 lv st g c s → pz_Z X 9 35 lv st g c s := (zs_iload hX dX4_findLeg_35 (zs_aload_n hX dX4_findLeg_37 rfl (zs_get hX (C := RX4) (T := TX4) (N := 5) rfl in_X4 (by decide) mw_e3f537a3 dX4_findLeg_38 (zs_iload hX dX4_findLeg_41 (zs_aald hX (ty := (.array .int)) (fun _ => rfl) rfl dX4_findLeg_43 (zs_iload hX dX4_findLeg_44 (zs_iald hX dX4_findLeg_46 (zs_ic_eq hX dX4_findLeg_47 (by decide) (fun _ _ _ _ _ _ h => h)))))))))
set_option maxRecDepth 20000 in
theorem bX4_findLeg_50 {X : pz_C} (hX : pz_X X cX4_findLeg 9 RX4) : ∀ lv st g c s, (zo_goto 102 (pz_Z X 9)) 50 lv st g c s → pz_Z X 9 50 lv st g c s := (zs_goto hX dX4_findLeg_50 (by decide) (fun _ _ _ _ _ _ h => h))
set_option maxRecDepth 20000 in
theorem bX4_findLeg_53 {X : pz_C} (hX : pz_X X cX4_findLeg 9 RX4) : ∀ lv st g c s, (zo_al 1 0 (zo_al 1 2 (zo_il 1 3 (zo_il 2 6 (zo_il 2 5 (zo_ic 1 (1) (zo_isub (pz_Z X 9)))))))) 53 lv st g c s → pz_Z X 9 53 lv st g c s := (zs_aload_n hX dX4_findLeg_53 rfl (zs_aload_n hX dX4_findLeg_54 rfl (zs_iload_n hX dX4_findLeg_55 rfl (zs_iload hX dX4_findLeg_56 (zs_iload hX dX4_findLeg_58 (zs_iconst hX dX4_findLeg_60 (by decide) (zs_isub hX dX4_findLeg_61 (fun _ _ _ _ _ h => h))))))))
set_option maxRecDepth 20000 in
theorem bX4_findLeg_62 {X : pz_C} {G : pz_Gx} {rm : Room} (hX : pz_X X cX4_findLeg 9 RX4) (hrm : pz_rm X = rm) (hGX : pz_GX X G) (hOk : pz_OK G) (gh : gt_X4_findEntry) (hr_X4_findEntry : rm_X4_findEntry.frames + 1 ≤ rm.frames ∧ 8 + (7 + 11) + rm_X4_findEntry.locals ≤ rm.locals) : ∀ lv st g c s, (zo_cV rm 6 4 3 rm_X4_findEntry.cells rm_X4_findEntry.slots (pr_X4_findEntry gh) (po_X4_findEntry gh) (zo_ki (zo_is 2 8 (zo_il 2 8 (zo_ic 1 (-1) (zo_ic_eq 102 (pz_Z X 9))))))) 62 lv st g c s → pz_Z X 9 62 lv st g c s := by
  subst hrm
  exact (zs_csV hX hGX (C := RX4) (T := TX4) (N := 5) rfl (ct_X4_findEntry hOk gh) mw_2929ebcb mw_871ea3cf mw_646adad6 mw_5ae0c28b mw_337623be (by decide +kernel) hr_X4_findEntry dX4_findLeg_62 (zs_ki (zs_istore hX dX4_findLeg_65 (by decide) (zs_iload hX dX4_findLeg_67 (zs_iconst hX dX4_findLeg_69 (by decide) (zs_ic_eq hX dX4_findLeg_70 (by decide) (fun _ _ _ _ _ _ h => h)))))))
set_option maxRecDepth 20000 in
theorem bX4_findLeg_73 {X : pz_C} {rm : Room} {E : Option pz_V → pz_H → Prop} (hX : pz_X X cX4_findLeg 9 RX4) (hR : pz_Rt X cX4_findLeg 9 (some .boolean) rm E) : ∀ lv st g c s, (zo_al 1 1 (zo_ic 1 (2) (zo_il 2 8 (zo_iast (zo_al 1 1 (zo_ic 1 (3) (zo_il 2 6 (zo_iast (zo_al 1 1 (zo_ic 1 (4) (zo_al 1 2 (zo_get 5 9 (zo_il 1 3 (zo_aald 6 (zo_il 2 8 (zo_iald (zo_iast (zo_al 1 1 (zo_ic 1 (5) (zo_il 2 7 (zo_iast (zo_ic 1 (1) (zo_rz rm E))))))))))))))))))))))) 73 lv st g c s → pz_Z X 9 73 lv st g c s := (zs_aload_n hX dX4_findLeg_73 rfl (zs_iconst hX dX4_findLeg_74 (by decide) (zs_iload hX dX4_findLeg_75 (zs_iast hX dX4_findLeg_77 (zs_aload_n hX dX4_findLeg_78 rfl (zs_iconst hX dX4_findLeg_79 (by decide) (zs_iload hX dX4_findLeg_80 (zs_iast hX dX4_findLeg_82 (zs_aload_n hX dX4_findLeg_83 rfl (zs_iconst hX dX4_findLeg_84 (by decide) (zs_aload_n hX dX4_findLeg_85 rfl (zs_get hX (C := RX3) (T := TX3) (N := 11) rfl in_X3 (by decide) mw_ab24417a dX4_findLeg_86 (zs_iload_n hX dX4_findLeg_89 rfl (zs_aald hX (ty := (.array .int)) (fun _ => rfl) rfl dX4_findLeg_90 (zs_iload hX dX4_findLeg_91 (zs_iald hX dX4_findLeg_93 (zs_iast hX dX4_findLeg_94 (zs_aload_n hX dX4_findLeg_95 rfl (zs_iconst hX dX4_findLeg_96 (by decide) (zs_iload hX dX4_findLeg_97 (zs_iast hX dX4_findLeg_99 (zs_iconst hX dX4_findLeg_100 (by decide) (zs_rz hR dX4_findLeg_101)))))))))))))))))))))))
set_option maxRecDepth 20000 in
theorem bX4_findLeg_102 {X : pz_C} (hX : pz_X X cX4_findLeg 9 RX4) : ∀ lv st g c s, (zo_inc 6 (1) (zo_goto 3 (pz_Z X 9))) 102 lv st g c s → pz_Z X 9 102 lv st g c s := (zs_iinc hX dX4_findLeg_102 (by decide) (by decide) (zs_goto hX dX4_findLeg_105 (by decide) (fun _ _ _ _ _ _ h => h)))
set_option maxRecDepth 20000 in
theorem bX4_findLeg_108 {X : pz_C} {rm : Room} {E : Option pz_V → pz_H → Prop} (hX : pz_X X cX4_findLeg 9 RX4) (hR : pz_Rt X cX4_findLeg 9 (some .boolean) rm E) : ∀ lv st g c s, (zo_ic 1 (0) (zo_rz rm E)) 108 lv st g c s → pz_Z X 9 108 lv st g c s := (zs_iconst hX dX4_findLeg_108 (by decide) (zs_rz hR dX4_findLeg_109))
def rm_X4_findLeg : Room := { frames := 2, cells := 0, slots := 0, locals := 50 }
abbrev gt_X4_findLeg : Type := (Nat × Nat × Nat × Nat × Nat × Nat) × (List Nat × (Nat → Int32)) × (Nat × Nat × Nat × Nat) × Int32 × (Nat → Nat) × ((Nat → Int32) × (Nat → Int32)) × (Nat × (Nat → Nat) × (Nat → Nat) × (Nat → Nat)) × (Int32 × Nat × Option Nat × Option Nat) × ((Nat → Int32) × (Nat → Int32) × (Nat → Int32)) × ((Nat → Int32) × (Nat → Int32)) × ((Nat → Nat) × (Nat → List (Int32 × Int32)) × (Nat → Int32) × (Nat → Int32))
def pr_X4_findLeg : gt_X4_findLeg → List pz_V → pz_H → Prop := fun ((nt, pr, h, row, pl, lb), (bp, pf), (la, pa, na, sa), fd, Wa, (w, wl), (u, La, Ra, Rd), (wd, n, dw, lw), (f1, f2, f3), (A, B), (fp, Z, N, C)) av g => av = [.inr (.inr (some nt)), .inr (.inr (some pr)), .inr (.inr (some h)), .inl (nI row), .inl (nI pl), .inl (nI (lb + 1))] ∧ row < 13 ∧ lb < 6 ∧ pl < 100 ∧ n ≤ 12 ∧ ntS g nt la pa na sa fd Wa ∧ lnH g u h La Ra Rd wd n dw lw f1 f2 f3 ∧ (∀ k, k < n → ∃ p, p < 100 ∧ f1 k = nI p) ∧ plS g pa fp Z N C ∧ g (Ra row) = some ([36, u, row], ar_i 12 A) ∧ g (Rd row) = some ([38, u, row], ar_i 12 B) ∧ g (Wa lb) = some ([11, lb], ar_i 100 w) ∧ g (Wa (lb + 1)) = some ([11, lb + 1], ar_i 100 wl) ∧ g pr = some (bp, ar_i 6 pf) ∧ (∃ k, bp = [14, k])
def po_X4_findLeg : gt_X4_findLeg → List pz_V → pz_H → Option pz_V → pz_H → Prop := fun ((_, pr, _, _, pl, lb), (bp, pf), _, _, _, (w, wl), _, (_, n, _, _), (f1, _, _), (A, B), (_, _, _, C)) _ g v g' => (fs_s (fl_q f1 A B lb w wl C pl) 1 (n - 1) = none ∧ g' = g ∧ v = some (.inl 0)) ∨ ∃ left e, fs_s (fl_q f1 A B lb w wl C pl) 1 (n - 1) = some left ∧ fs_s (fe_p f1 A B lb w C left) 0 left = some e ∧ v = some (.inl 1) ∧ g' = va_up g pr (some (bp, ar_i 6 (upd (upd (upd (upd pf 2 (nI e)) 3 (nI left)) 4 (B e)) 5 (A left))))
set_option maxRecDepth 20000 in
set_option maxHeartbeats 4000000 in
theorem ct_X4_findLeg {G : pz_Gx} (hOk : pz_OK G) (gh : gt_X4_findLeg) : pz_M G yX4_findLeg cX4_findLeg 9 (some .boolean) rm_X4_findLeg (pr_X4_findLeg gh) (po_X4_findLeg gh) := by
  obtain ⟨⟨nt, pr, h, row, pl, lb⟩, ⟨bp, pf⟩, ⟨la, pa, na, sa⟩, fd, Wa, ⟨w, wl⟩, ⟨u, La, Ra, Rd⟩, ⟨wd, n, dw, lw⟩, ⟨f1, f2, f3⟩, ⟨A, B⟩, fp, Z, N, C⟩ := gh
  refine pz_ofZ (by decide) hOk.1 (Or.inr (Or.inr (Or.inl rfl))) ?_ ?_
  · rintro av g ⟨rfl, -⟩
    exact Nat.le_of_ble_eq_true rfl
  · rintro X hX hGX hrm - av g ⟨rfl, hrow, hlb, hpl100, hn, hnt, hL, hpl, hpS, hA, hB, hw, hwl, hpr, kb, rfl⟩ hR
    obtain ⟨hh, h1, h2, h3, ⟨o8, h8, ho8⟩, o9, h9, ho9⟩ := id hL
    obtain ⟨hn1, ona, hna, hona⟩ := id hnt
    have hrc : (nI row).toNatClampNeg = row := ni_cl (by omega)
    have hri : vp_in (nI row) 13 := ni_in hrow (by omega)
    have hlc : (nI (lb + 1)).toNatClampNeg = lb + 1 := ni_cl (by omega)
    have hli : vp_in (nI (lb + 1)) 7 := ni_in (by omega) (by omega)
    have loop : ∀ (m k : Nat), 1 ≤ k → k ≤ 13 → (k + m = n ∨ (n = 0 ∧ m = 0)) → fs_s (fl_q f1 A B lb w wl C pl) k m = fs_s (fl_q f1 A B lb w wl C pl) 1 (n - 1) → pz_Z X 9 3 [(6, .inl (nI k)), (0, .inr (.inr (some nt))), (1, .inr (.inr (some pr))), (2, .inr (.inr (some h))), (3, .inl (nI row)), (4, .inl (nI pl)), (5, .inl (nI (lb + 1)))] [] g 0 0 := by
      intro m
      induction m with
      | zero =>
        intro k hk1 hk13 hk he
        refine bX4_findLeg_3 hX _ _ _ _ _ ⟨_, _, _, hh, rfl, fun _ => ?_, fun q => absurd ((ni_le (by omega) (by omega)).mpr (by omega)) q⟩
        exact bX4_findLeg_108 hX hR _ _ _ _ _ ⟨Or.inl rfl, Nat.le_refl _, Nat.le_refl _, Or.inl ⟨he.symm, rfl, rfl⟩⟩
      | succ m ih =>
        intro k hk1 hk13 hk he
        have hkn : k < n := by omega
        have hkc : (nI k).toNatClampNeg = k := ni_cl (by omega)
        have hk12 : vp_in (nI k) 12 := ni_in (by omega) (by omega)
        have no : fl_q f1 A B lb w wl C pl k = false → ∀ lv : pz_L, pz_all lv [(6, .inl (nI k)), (0, .inr (.inr (some nt))), (1, .inr (.inr (some pr))), (2, .inr (.inr (some h))), (3, .inl (nI row)), (4, .inl (nI pl)), (5, .inl (nI (lb + 1)))] → pz_Z X 9 102 lv [] g 0 0 := by
          intro hf lv hlv
          refine pz_lsub hlv ?_
          refine bX4_findLeg_102 hX _ _ _ _ _ ?_
          refine pz_lsub (lv' := [(6, .inl (nI (k + 1))), (0, .inr (.inr (some nt))), (1, .inr (.inr (some pr))), (2, .inr (.inr (some h))), (3, .inl (nI row)), (4, .inl (nI pl)), (5, .inl (nI (lb + 1)))]) ⟨ni_inc, rfl, rfl, rfl, rfl, rfl, rfl, trivial⟩ ?_
          refine ih (k + 1) (by omega) (by omega) (by omega) ?_
          rw [← he]
          show _ = if fl_q f1 A B lb w wl C pl k = true then some k else fs_s _ (k + 1) m
          rw [if_neg (by rw [hf]; decide)]
        refine bX4_findLeg_3 hX _ _ _ _ _ ⟨_, _, _, hh, rfl, fun q => absurd ((ni_le (by omega) (by omega)).mp q) (by omega), fun _ => ?_⟩
        refine bX4_findLeg_12 hX _ _ _ _ _ ⟨_, _, _, hh, rfl, _, _, _, h8, hri, ?_⟩
        rw [hrc, ho8 row hrow]
        refine ⟨_, _, _, hA, hk12, _, _, _, hh, rfl, _, _, _, h1, hk12, ?_⟩
        rw [hkc]
        refine ⟨fun q => ?_, fun q => ?_⟩
        · exact no (by unfold fl_q; rw [decide_eq_false q]; rfl) _ ⟨rfl, rfl, rfl, rfl, rfl, rfl, rfl, trivial⟩
        refine bX4_findLeg_35 hX _ _ _ _ _ ⟨_, _, _, hn1, rfl, _, _, _, hna, hli, ?_⟩
        rw [hlc, hona (lb + 1) (by omega)]
        refine ⟨_, _, _, hwl, ni_in hpl100 (by omega), ?_⟩
        rw [ni_cl (j := pl) (by omega)]
        refine ⟨fun q2 => ?_, fun q2 => ?_⟩
        · refine bX4_findLeg_53 hX _ _ _ _ _ ?_
          have ep : nI lb = nI (lb + 1) - 1 := (ni_pred (n := lb + 1) (by omega)).symm
          refine bX4_findLeg_62 hX hrm hGX hOk ((nt, h, row, k, lb), (la, pa, na, sa), fd, Wa, w, (u, La, Ra, Rd), (wd, n, dw, lw), (f1, f2, f3), (A, B), (fp, Z, N, C)) (by decide) _ _ _ _ _ ⟨Nat.le_of_ble_eq_true rfl, ⟨nt, [.inr (.inr (some h)), .inl (nI row), .inl (nI k), .inl (nI (lb + 1) - 1)], [1], _, rfl, hn1⟩, Nat.le_of_ble_eq_true rfl, Nat.le_of_ble_eq_true rfl, Nat.le_of_ble_eq_true rfl, ⟨by rw [ep]; rfl, hrow, by omega, hkn, hn, hnt, hL, hpl, hpS, hA, hB, hw⟩, ?_⟩
          rintro v g3 ⟨rfl, rfl⟩ x hx
          cases hx
          cases hfe : fs_s (fe_p f1 A B lb w C k) 0 k with
          | none =>
            refine ⟨fun _ => ?_, fun z => absurd rfl z⟩
            exact no (by unfold fl_q; rw [hfe]; simp) _ ⟨rfl, rfl, rfl, rfl, rfl, rfl, rfl, trivial⟩
          | some e =>
            have hel := fs_lt hfe
            have hek : e < k := by omega
            refine ⟨fun z => ?_, fun _ => ?_⟩
            · have h0 : ¬ nI e < 0 := nI_pos (by omega)
              rw [show nI e = -1 from z] at h0
              exact absurd (by decide) h0
            have hqt : fl_q f1 A B lb w wl C pl k = true := by
              unfold fl_q
              rw [decide_eq_true q, decide_eq_true q2, hfe]
              rfl
            refine bX4_findLeg_73 hX hR _ _ _ _ _ ⟨_, _, _, hpr, ni_in (j := 2) (by omega) (by omega), _, _, _, up_at, ni_in (j := 3) (by omega) (by omega), _, _, _, up_ne (up_ne hh hpr (by simp)) up_at (by simp), rfl, _, _, _, up_ne (up_ne h9 hpr (by simp)) up_at (by simp), hri, ?_⟩
            rw [hrc, ho9 row hrow]
            refine ⟨_, _, _, up_ne (up_ne hB hpr (by simp)) up_at (by simp), ni_in (j := e) (by omega) (by omega), _, _, _, up_at, ni_in (j := 4) (by omega) (by omega), _, _, _, up_at, ni_in (j := 5) (by omega) (by omega), Or.inr rfl, Nat.le_refl _, Nat.le_refl _, Or.inr ⟨k, e, ?_, hfe, rfl, ?_⟩⟩
            · rw [← he]
              show (if fl_q f1 A B lb w wl C pl k = true then some k else fs_s _ (k + 1) m) = some k
              rw [if_pos hqt]
            · rw [up_up, up_up, up_up, show (fs_i (some e)).toNatClampNeg = e from ni_cl (by omega)]
              rfl
        · refine bX4_findLeg_50 hX _ _ _ _ _ ?_
          exact no (by unfold fl_q; rw [decide_eq_false q2]; simp) _ ⟨rfl, rfl, rfl, rfl, rfl, rfl, rfl, trivial⟩
    refine bX4_findLeg_0 hX _ _ _ _ _ ?_
    refine pz_lsub (lv' := [(6, .inl (nI 1)), (0, .inr (.inr (some nt))), (1, .inr (.inr (some pr))), (2, .inr (.inr (some h))), (3, .inl (nI row)), (4, .inl (nI pl)), (5, .inl (nI (lb + 1)))]) ⟨rfl, rfl, rfl, rfl, rfl, rfl, rfl, trivial⟩ ?_
    exact loop (n - 1) 1 (Nat.le_refl _) (by omega) (by omega) rfl
