/-! LineTimes$Net.ride: one run taken as the last leg; so: the soonest by place, wl: the arrivals with these legs, e: whether a place is reached earlier, fe: the first entry -/
abbrev rd_S : Type := (Nat → Int32) × (Nat → Int32) × Int32 × Int32
def rd_e (p : Nat) (b : Int32) (lb : Nat) (w C : Nat → Int32) (fe : Int32) : Int32 := if b < fe ∧ nt_ce (w p) lb (C p) b = true then b else fe
def rd_1 (p : Nat) (a b : Int32) (to lb : Nat) (w C : Nat → Int32) : rd_S → rd_S := fun (so, wl, e, fe) => if fe ≤ a ∧ a < so p ∧ a < so to then (upd so p a, upd wl p a, 1, rd_e p b lb w C fe) else (so, wl, e, rd_e p b lb w C fe)
def rd_k (f1 A B : Nat → Int32) (to lb : Nat) (w C : Nat → Int32) (s : rd_S) : Nat → rd_S
  | 0 => s
  | k + 1 => rd_1 (f1 k).toNatClampNeg (A k) (B k) to lb w C (rd_k f1 A B to lb w C s k)
set_option maxRecDepth 20000 in
theorem bX4_ride_0 {X : pz_C} (hX : pz_X X cX4_ride 11 RX4) : ∀ lv st g c s, (zo_ic 1 (0) (zo_is 2 5 (zo_ic 2 (2147483647) (zo_is 2 6 (zo_ic 1 (0) (zo_is 2 7 (pz_Z X 11))))))) 0 lv st g c s → pz_Z X 11 0 lv st g c s := (zs_iconst hX dX4_ride_0 (by decide) (zs_istore hX dX4_ride_1 (by decide) (zs_ldc hX dX4_ride_3 mw_9b89bef2 (zs_istore hX dX4_ride_5 (by decide) (zs_iconst hX dX4_ride_7 (by decide) (zs_istore hX dX4_ride_8 (by decide) (fun _ _ _ _ _ h => h)))))))
set_option maxRecDepth 20000 in
theorem bX4_ride_10 {X : pz_C} (hX : pz_X X cX4_ride 11 RX4) : ∀ lv st g c s, (zo_il 2 7 (zo_al 1 1 (zo_get 5 4 (zo_ic_ge 135 (pz_Z X 11))))) 10 lv st g c s → pz_Z X 11 10 lv st g c s := (zs_iload hX dX4_ride_10 (zs_aload_n hX dX4_ride_12 rfl (zs_get hX (C := RX3) (T := TX3) (N := 11) rfl in_X3 (by decide) mw_7ddd2f0e dX4_ride_13 (zs_ic_ge hX dX4_ride_16 (by decide) (fun _ _ _ _ _ _ h => h)))))
set_option maxRecDepth 20000 in
theorem bX4_ride_19 {X : pz_C} (hX : pz_X X cX4_ride 11 RX4) : ∀ lv st g c s, (zo_al 1 1 (zo_get 5 1 (zo_il 2 7 (zo_iald (zo_is 2 8 (zo_al 1 1 (zo_get 5 8 (zo_il 1 2 (zo_aald 6 (zo_il 2 7 (zo_iald (zo_is 2 9 (zo_il 2 6 (zo_il 2 9 (zo_ic_gt 93 (pz_Z X 11)))))))))))))))) 19 lv st g c s → pz_Z X 11 19 lv st g c s := (zs_aload_n hX dX4_ride_19 rfl (zs_get hX (C := RX3) (T := TX3) (N := 11) rfl in_X3 (by decide) mw_6bb37aef dX4_ride_20 (zs_iload hX dX4_ride_23 (zs_iald hX dX4_ride_25 (zs_istore hX dX4_ride_26 (by decide) (zs_aload_n hX dX4_ride_28 rfl (zs_get hX (C := RX3) (T := TX3) (N := 11) rfl in_X3 (by decide) mw_c4b4b32a dX4_ride_29 (zs_iload_n hX dX4_ride_32 rfl (zs_aald hX (ty := (.array .int)) (fun _ => rfl) rfl dX4_ride_33 (zs_iload hX dX4_ride_34 (zs_iald hX dX4_ride_36 (zs_istore hX dX4_ride_37 (by decide) (zs_iload hX dX4_ride_39 (zs_iload hX dX4_ride_41 (zs_ic_gt hX dX4_ride_43 (by decide) (fun _ _ _ _ _ _ h => h))))))))))))))))
set_option maxRecDepth 20000 in
theorem bX4_ride_46 {X : pz_C} (hX : pz_X X cX4_ride 11 RX4) : ∀ lv st g c s, (zo_il 2 9 (zo_al 1 0 (zo_get 6 3 (zo_il 2 8 (zo_iald (zo_ic_ge 93 (pz_Z X 11))))))) 46 lv st g c s → pz_Z X 11 46 lv st g c s := (zs_iload hX dX4_ride_46 (zs_aload_n hX dX4_ride_48 rfl (zs_get hX (C := RX4) (T := TX4) (N := 5) rfl in_X4 (by decide) mw_d8a77461 dX4_ride_49 (zs_iload hX dX4_ride_52 (zs_iald hX dX4_ride_54 (zs_ic_ge hX dX4_ride_55 (by decide) (fun _ _ _ _ _ _ h => h)))))))
set_option maxRecDepth 20000 in
theorem bX4_ride_58 {X : pz_C} (hX : pz_X X cX4_ride 11 RX4) : ∀ lv st g c s, (zo_il 2 9 (zo_al 1 0 (zo_get 6 3 (zo_il 2 4 (zo_iald (zo_ic_ge 93 (pz_Z X 11))))))) 58 lv st g c s → pz_Z X 11 58 lv st g c s := (zs_iload hX dX4_ride_58 (zs_aload_n hX dX4_ride_60 rfl (zs_get hX (C := RX4) (T := TX4) (N := 5) rfl in_X4 (by decide) mw_d8a77461 dX4_ride_61 (zs_iload hX dX4_ride_64 (zs_iald hX dX4_ride_66 (zs_ic_ge hX dX4_ride_67 (by decide) (fun _ _ _ _ _ _ h => h)))))))
set_option maxRecDepth 20000 in
theorem bX4_ride_70 {X : pz_C} (hX : pz_X X cX4_ride 11 RX4) : ∀ lv st g c s, (zo_al 1 0 (zo_get 6 3 (zo_il 2 8 (zo_il 2 9 (zo_iast (zo_al 1 0 (zo_get 6 2 (zo_il 1 3 (zo_aald 6 (zo_il 2 8 (zo_il 2 9 (zo_iast (zo_ic 1 (1) (zo_is 2 5 (pz_Z X 11))))))))))))))) 70 lv st g c s → pz_Z X 11 70 lv st g c s := (zs_aload_n hX dX4_ride_70 rfl (zs_get hX (C := RX4) (T := TX4) (N := 5) rfl in_X4 (by decide) mw_d8a77461 dX4_ride_71 (zs_iload hX dX4_ride_74 (zs_iload hX dX4_ride_76 (zs_iast hX dX4_ride_78 (zs_aload_n hX dX4_ride_79 rfl (zs_get hX (C := RX4) (T := TX4) (N := 5) rfl in_X4 (by decide) mw_e3f537a3 dX4_ride_80 (zs_iload_n hX dX4_ride_83 rfl (zs_aald hX (ty := (.array .int)) (fun _ => rfl) rfl dX4_ride_84 (zs_iload hX dX4_ride_85 (zs_iload hX dX4_ride_87 (zs_iast hX dX4_ride_89 (zs_iconst hX dX4_ride_90 (by decide) (zs_istore hX dX4_ride_91 (by decide) (fun _ _ _ _ _ h => h)))))))))))))))
set_option maxRecDepth 20000 in
theorem bX4_ride_93 {X : pz_C} (hX : pz_X X cX4_ride 11 RX4) : ∀ lv st g c s, (zo_al 1 1 (zo_get 5 9 (zo_il 1 2 (zo_aald 6 (zo_il 2 7 (zo_iald (zo_is 2 10 (zo_il 2 10 (zo_il 2 6 (zo_ic_ge 129 (pz_Z X 11))))))))))) 93 lv st g c s → pz_Z X 11 93 lv st g c s := (zs_aload_n hX dX4_ride_93 rfl (zs_get hX (C := RX3) (T := TX3) (N := 11) rfl in_X3 (by decide) mw_ab24417a dX4_ride_94 (zs_iload_n hX dX4_ride_97 rfl (zs_aald hX (ty := (.array .int)) (fun _ => rfl) rfl dX4_ride_98 (zs_iload hX dX4_ride_99 (zs_iald hX dX4_ride_101 (zs_istore hX dX4_ride_102 (by decide) (zs_iload hX dX4_ride_104 (zs_iload hX dX4_ride_106 (zs_ic_ge hX dX4_ride_108 (by decide) (fun _ _ _ _ _ _ h => h)))))))))))
set_option maxRecDepth 20000 in
theorem bX4_ride_111 {X : pz_C} (hX : pz_X X cX4_ride 11 RX4) : ∀ lv st g c s, (zo_al 1 0 (zo_il 2 8 (zo_il 2 10 (zo_il 1 3 (zo_ic 1 (1) (zo_isub (pz_Z X 11))))))) 111 lv st g c s → pz_Z X 11 111 lv st g c s := (zs_aload_n hX dX4_ride_111 rfl (zs_iload hX dX4_ride_112 (zs_iload hX dX4_ride_114 (zs_iload_n hX dX4_ride_116 rfl (zs_iconst hX dX4_ride_117 (by decide) (zs_isub hX dX4_ride_118 (fun _ _ _ _ _ h => h)))))))
set_option maxRecDepth 20000 in
theorem bX4_ride_119 {X : pz_C} {G : pz_Gx} {rm : Room} (hX : pz_X X cX4_ride 11 RX4) (hrm : pz_rm X = rm) (hGX : pz_GX X G) (hOk : pz_OK G) (gh : gt_X4_canEnter) (hr_X4_canEnter : rm_X4_canEnter.frames + 1 ≤ rm.frames ∧ 8 + (5 + 11) + rm_X4_canEnter.locals ≤ rm.locals) : ∀ lv st g c s, (zo_cV rm 6 3 3 rm_X4_canEnter.cells rm_X4_canEnter.slots (pr_X4_canEnter gh) (po_X4_canEnter gh) (zo_kz (zo_if_eq 129 (pz_Z X 11)))) 119 lv st g c s → pz_Z X 11 119 lv st g c s := by
  subst hrm
  exact (zs_csV hX hGX (C := RX4) (T := TX4) (N := 5) rfl (ct_X4_canEnter hOk gh) mw_2e94ed91 mw_549f7f9f mw_c0c583b8 mw_5ae0c28b mw_8433c21b (by decide +kernel) hr_X4_canEnter dX4_ride_119 (zs_kz (zs_if_eq hX dX4_ride_122 (by decide) (fun _ _ _ _ _ _ h => h))))
set_option maxRecDepth 20000 in
theorem bX4_ride_125 {X : pz_C} (hX : pz_X X cX4_ride 11 RX4) : ∀ lv st g c s, (zo_il 2 10 (zo_is 2 6 (pz_Z X 11))) 125 lv st g c s → pz_Z X 11 125 lv st g c s := (zs_iload hX dX4_ride_125 (zs_istore hX dX4_ride_127 (by decide) (fun _ _ _ _ _ h => h)))
set_option maxRecDepth 20000 in
theorem bX4_ride_129 {X : pz_C} (hX : pz_X X cX4_ride 11 RX4) : ∀ lv st g c s, (zo_inc 7 (1) (zo_goto 10 (pz_Z X 11))) 129 lv st g c s → pz_Z X 11 129 lv st g c s := (zs_iinc hX dX4_ride_129 (by decide) (by decide) (zs_goto hX dX4_ride_132 (by decide) (fun _ _ _ _ _ _ h => h)))
set_option maxRecDepth 20000 in
theorem bX4_ride_135 {X : pz_C} {rm : Room} {E : Option pz_V → pz_H → Prop} (hX : pz_X X cX4_ride 11 RX4) (hR : pz_Rt X cX4_ride 11 (some .boolean) rm E) : ∀ lv st g c s, (zo_il 2 5 (zo_rz rm E)) 135 lv st g c s → pz_Z X 11 135 lv st g c s := (zs_iload hX dX4_ride_135 (zs_rz hR dX4_ride_137))
def rm_X4_ride : Room := { frames := 1, cells := 0, slots := 0, locals := 24 }
abbrev gt_X4_ride : Type := (Nat × Nat × Nat × Nat × Nat) × (Nat × Nat × Nat × Nat) × Int32 × (Nat → Nat) × ((Nat → Int32) × (Nat → Int32) × (Nat → Int32)) × (Nat × (Nat → Nat) × (Nat → Nat) × (Nat → Nat)) × (Int32 × Nat × Option Nat × Option Nat) × ((Nat → Int32) × (Nat → Int32) × (Nat → Int32)) × ((Nat → Int32) × (Nat → Int32)) × ((Nat → Nat) × (Nat → List (Int32 × Int32)) × (Nat → Int32) × (Nat → Int32))
def pr_X4_ride : gt_X4_ride → List pz_V → pz_H → Prop := fun ((nt, h, row, lb, to), (la, pa, na, sa), fd, Wa, (w, wl, so), (u, La, Ra, Rd), (wd, n, dw, lw), (f1, f2, f3), (A, B), (fp, Z, N, C)) av g => av = [.inr (.inr (some nt)), .inr (.inr (some h)), .inl (nI row), .inl (nI (lb + 1)), .inl (nI to)] ∧ row < 13 ∧ lb < 6 ∧ to < 100 ∧ n ≤ 12 ∧ ntS g nt la pa na sa fd Wa ∧ lnH g u h La Ra Rd wd n dw lw f1 f2 f3 ∧ (∀ k, k < n → ∃ p, p < 100 ∧ f1 k = nI p) ∧ plS g pa fp Z N C ∧ g (Ra row) = some ([36, u, row], ar_i 12 A) ∧ g (Rd row) = some ([38, u, row], ar_i 12 B) ∧ g (Wa lb) = some ([11, lb], ar_i 100 w) ∧ g (Wa (lb + 1)) = some ([11, lb + 1], ar_i 100 wl) ∧ g sa = some ([12], ar_i 100 so)
def po_X4_ride : gt_X4_ride → List pz_V → pz_H → Option pz_V → pz_H → Prop := fun ((_, _, _, lb, to), (_, _, _, sa), _, Wa, (w, wl, so), _, (_, n, _, _), (f1, _, _), (A, B), (_, _, _, C)) _ g v g' => hg (fun b => b = [12] ∨ b = [11, lb + 1]) g g' ∧ ∃ so' wl' e' fe', (so', wl', e', fe') = rd_k f1 A B to lb w C (so, wl, 0, 2147483647) n ∧ v = some (.inl e') ∧ g' sa = some ([12], ar_i 100 so') ∧ g' (Wa (lb + 1)) = some ([11, lb + 1], ar_i 100 wl')
theorem rd_k_01 {f1 A B : Nat → Int32} {to lb : Nat} {w C : Nat → Int32} {s : rd_S} (h : s.2.2.1 = 0 ∨ s.2.2.1 = 1) : ∀ k, (rd_k f1 A B to lb w C s k).2.2.1 = 0 ∨ (rd_k f1 A B to lb w C s k).2.2.1 = 1
  | 0 => h
  | k + 1 => by
    have ih := rd_k_01 (f1 := f1) (A := A) (B := B) (to := to) (lb := lb) (w := w) (C := C) h k
    have e0 : rd_k f1 A B to lb w C s (k + 1) = rd_1 (f1 k).toNatClampNeg (A k) (B k) to lb w C (rd_k f1 A B to lb w C s k) := rfl
    rw [e0]
    revert ih
    generalize rd_k f1 A B to lb w C s k = q
    obtain ⟨so, wl, e, fe⟩ := q
    intro ih
    unfold rd_1
    dsimp only
    split
    · exact Or.inr rfl
    · exact ih
set_option maxRecDepth 20000 in
set_option maxHeartbeats 4000000 in
theorem ct_X4_ride {G : pz_Gx} (hOk : pz_OK G) (gh : gt_X4_ride) : pz_M G yX4_ride cX4_ride 11 (some .boolean) rm_X4_ride (pr_X4_ride gh) (po_X4_ride gh) := by
  obtain ⟨⟨nt, h, row, lb, to⟩, ⟨la, pa, na, sa⟩, fd, Wa, ⟨w, wl0, so0⟩, ⟨u, La, Ra, Rd⟩, ⟨wd, n, dw, lw⟩, ⟨f1, f2, f3⟩, ⟨A, B⟩, fp, Z, N, C⟩ := gh
  refine pz_ofZ (by decide) hOk.1 (Or.inr (Or.inr (Or.inl rfl))) ?_ ?_
  · rintro av g ⟨rfl, -⟩
    exact Nat.le_of_ble_eq_true rfl
  · rintro X hX hGX hrm - av g ⟨rfl, hrow, hlb, hto, hn, hnt, hL, hpl, hpS, hA, hB, hw, hwl, hso⟩ hR
    have loop : ∀ (m k : Nat) (so wl : Nat → Int32) (e fe : Int32) (gk : pz_H), k + m = n → hg (fun b => b = [12] ∨ b = [11, lb + 1]) g gk → gk sa = some ([12], ar_i 100 so) → gk (Wa (lb + 1)) = some ([11, lb + 1], ar_i 100 wl) → (so, wl, e, fe) = rd_k f1 A B to lb w C (so0, wl0, 0, 2147483647) k → pz_Z X 11 10 [(7, .inl (nI k)), (6, .inl fe), (5, .inl e), (0, .inr (.inr (some nt))), (1, .inr (.inr (some h))), (2, .inl (nI row)), (3, .inl (nI (lb + 1))), (4, .inl (nI to))] [] gk 0 0 := by
      intro m
      induction m with
      | zero =>
        intro k so wl e fe gk hk hS hs hl hr
        obtain rfl : k = n := by omega
        have hL' := lnH_mono hS (by simp) hL
        refine bX4_ride_10 hX _ _ _ _ _ ⟨_, _, _, hL'.1, rfl, fun _ => ?_, fun q => absurd (Int32.le_refl _) q⟩
        refine bX4_ride_135 hX hR _ _ _ _ _ ⟨?_, Nat.le_refl _, Nat.le_refl _, hS, so, wl, e, fe, hr, rfl, hs, hl⟩
        have := rd_k_01 (f1 := f1) (A := A) (B := B) (to := to) (lb := lb) (w := w) (C := C) (s := (so0, wl0, 0, 2147483647)) (Or.inl rfl) k
        rw [← hr] at this
        exact this
      | succ m ih =>
        intro k so wl e fe gk hk hS hs hl hr
        obtain ⟨hh, h1, h2, h3, ⟨o8, h8, ho8⟩, o9, h9, ho9⟩ := lnH_mono hS (by simp) hL
        obtain ⟨p, hp, hfp⟩ := hpl k (by omega)
        have hk12 : vp_in (nI k) 12 := ni_in (by omega) (by omega)
        have hkc : (nI k).toNatClampNeg = k := ni_cl (by omega)
        have hrc : (nI row).toNatClampNeg = row := ni_cl (by omega)
        have hri : vp_in (nI row) 13 := ni_in hrow (by omega)
        have hpi : vp_in (nI p) 100 := ni_in hp (by omega)
        have hpc : (nI p).toNatClampNeg = p := ni_cl (by omega)
        have hti : vp_in (nI to) 100 := ni_in hto (by omega)
        have htc : (nI to).toNatClampNeg = to := ni_cl (by omega)
        have hlc : (nI (lb + 1)).toNatClampNeg = lb + 1 := ni_cl (by omega)
        have hli : vp_in (nI (lb + 1)) 7 := ni_in (by omega) (by omega)
        have hr1 : rd_k f1 A B to lb w C (so0, wl0, 0, 2147483647) (k + 1) = rd_1 p (A k) (B k) to lb w C (so, wl, e, fe) := by
          show rd_1 (f1 k).toNatClampNeg (A k) (B k) to lb w C (rd_k f1 A B to lb w C (so0, wl0, 0, 2147483647) k) = _
          rw [hfp, hpc, ← hr]
        have j129 : ∀ (so2 wl2 : Nat → Int32) (e2 fe2 : Int32) (g2 : pz_H), hg (fun b => b = [12] ∨ b = [11, lb + 1]) g g2 → g2 sa = some ([12], ar_i 100 so2) → g2 (Wa (lb + 1)) = some ([11, lb + 1], ar_i 100 wl2) → (so2, wl2, e2, fe2) = rd_1 p (A k) (B k) to lb w C (so, wl, e, fe) → pz_Z X 11 129 [(7, .inl (nI k)), (6, .inl fe2), (5, .inl e2), (0, .inr (.inr (some nt))), (1, .inr (.inr (some h))), (2, .inl (nI row)), (3, .inl (nI (lb + 1))), (4, .inl (nI to))] [] g2 0 0 := by
          intro so2 wl2 e2 fe2 g2 hS2 hs2 hl2 hr2
          refine bX4_ride_129 hX _ _ _ _ _ ?_
          refine pz_lsub (lv' := [(7, .inl (nI (k + 1))), (6, .inl fe2), (5, .inl e2), (0, .inr (.inr (some nt))), (1, .inr (.inr (some h))), (2, .inl (nI row)), (3, .inl (nI (lb + 1))), (4, .inl (nI to))]) ⟨ni_inc, rfl, rfl, rfl, rfl, rfl, rfl, rfl, trivial⟩ ?_
          exact ih (k + 1) so2 wl2 e2 fe2 g2 (by omega) hS2 hs2 hl2 (by rw [hr1]; exact hr2)
        have j93 : ∀ (so2 wl2 : Nat → Int32) (e2 : Int32) (g2 : pz_H), hg (fun b => b = [12] ∨ b = [11, lb + 1]) g g2 → g2 sa = some ([12], ar_i 100 so2) → g2 (Wa (lb + 1)) = some ([11, lb + 1], ar_i 100 wl2) → (so2, wl2, e2, rd_e p (B k) lb w C fe) = rd_1 p (A k) (B k) to lb w C (so, wl, e, fe) → pz_Z X 11 93 [(8, .inl (nI p)), (7, .inl (nI k)), (6, .inl fe), (5, .inl e2), (0, .inr (.inr (some nt))), (1, .inr (.inr (some h))), (2, .inl (nI row)), (3, .inl (nI (lb + 1))), (4, .inl (nI to))] [] g2 0 0 := by
          intro so2 wl2 e2 g2 hS2 hs2 hl2 hr2
          obtain ⟨hh', -, -, -, -, o9', h9', ho9'⟩ := lnH_mono hS2 (by simp) hL
          have hB' := hS2 _ _ _ hB (by simp)
          have hnt' := ntS_mono hS2 (by simp) hnt
          have hw' := hS2 _ _ _ hw (by simp)
          have hpS' := plS_mono hS2 (by simp) hpS
          refine bX4_ride_93 hX _ _ _ _ _ ⟨_, _, _, hh', rfl, _, _, _, h9', hri, ?_⟩
          rw [hrc, ho9' row hrow]
          refine ⟨_, _, _, hB', hk12, ?_⟩
          rw [hkc]
          refine ⟨fun q => ?_, fun q => ?_⟩
          · refine pz_lsub (lv' := [(7, .inl (nI k)), (6, .inl fe), (5, .inl e2), (0, .inr (.inr (some nt))), (1, .inr (.inr (some h))), (2, .inl (nI row)), (3, .inl (nI (lb + 1))), (4, .inl (nI to))]) ⟨rfl, rfl, rfl, rfl, rfl, rfl, rfl, rfl, trivial⟩ ?_
            refine j129 so2 wl2 e2 fe g2 hS2 hs2 hl2 ?_
            rw [← hr2]
            unfold rd_e
            rw [if_neg (fun z => absurd z.1 (Int32.not_lt.mpr q))]
          · refine bX4_ride_111 hX _ _ _ _ _ ?_
            have ep : nI lb = nI (lb + 1) - 1 := (ni_pred (n := lb + 1) (by omega)).symm
            refine bX4_ride_119 hX hrm hGX hOk ((nt, p, B k, lb), (la, pa, na, sa), fd, Wa, w, (fp, Z, N, C)) (by decide) _ _ _ _ _ ⟨Nat.le_of_ble_eq_true rfl, ⟨nt, [.inl (nI p), .inl (B k), .inl (nI (lb + 1) - 1)], [1], _, rfl, hnt'.1⟩, Nat.le_of_ble_eq_true rfl, Nat.le_of_ble_eq_true rfl, Nat.le_of_ble_eq_true rfl, ⟨by rw [ep]; rfl, hp, by omega, hnt', hw', hpS'⟩, ?_⟩
            rintro v g3 ⟨rfl, rfl⟩ x hx -
            cases hx
            by_cases hce : nt_ce (w p) lb (C p) (B k) = true
            · rw [if_pos hce]
              refine ⟨fun z => absurd z (by decide), fun _ => ?_⟩
              refine bX4_ride_125 hX _ _ _ _ _ ?_
              refine pz_lsub (lv' := [(7, .inl (nI k)), (6, .inl (B k)), (5, .inl e2), (0, .inr (.inr (some nt))), (1, .inr (.inr (some h))), (2, .inl (nI row)), (3, .inl (nI (lb + 1))), (4, .inl (nI to))]) ⟨rfl, rfl, rfl, rfl, rfl, rfl, rfl, rfl, trivial⟩ ?_
              refine j129 so2 wl2 e2 (B k) g3 hS2 hs2 hl2 ?_
              rw [← hr2]
              unfold rd_e
              rw [if_pos ⟨Int32.not_le.mp q, hce⟩]
            · rw [if_neg hce]
              refine ⟨fun _ => ?_, fun z => absurd rfl z⟩
              refine pz_lsub (lv' := [(7, .inl (nI k)), (6, .inl fe), (5, .inl e2), (0, .inr (.inr (some nt))), (1, .inr (.inr (some h))), (2, .inl (nI row)), (3, .inl (nI (lb + 1))), (4, .inl (nI to))]) ⟨rfl, rfl, rfl, rfl, rfl, rfl, rfl, rfl, trivial⟩ ?_
              refine j129 so2 wl2 e2 fe g3 hS2 hs2 hl2 ?_
              rw [← hr2]
              unfold rd_e
              rw [if_neg (fun z => hce z.2)]
        have no : ¬ (fe ≤ A k ∧ A k < so p ∧ A k < so to) → ∀ lv : pz_L, pz_all lv [(8, .inl (nI p)), (7, .inl (nI k)), (6, .inl fe), (5, .inl e), (0, .inr (.inr (some nt))), (1, .inr (.inr (some h))), (2, .inl (nI row)), (3, .inl (nI (lb + 1))), (4, .inl (nI to))] → pz_Z X 11 93 lv [] gk 0 0 := by
          intro hno lv hlv
          refine pz_lsub hlv ?_
          refine j93 so wl e gk hS hs hl ?_
          unfold rd_1
          dsimp only
          rw [if_neg hno]
        have hA' := hS _ _ _ hA (by simp)
        have hnt' := ntS_mono hS (by simp) hnt
        obtain ⟨hn1, ona, hna, hona⟩ := id hnt'
        refine bX4_ride_10 hX _ _ _ _ _ ⟨_, _, _, hh, rfl, fun q => absurd ((ni_le (by omega) (by omega)).mp q) (by omega), fun _ => ?_⟩
        refine bX4_ride_19 hX _ _ _ _ _ ⟨_, _, _, hh, rfl, _, _, _, h1, hk12, _, _, _, hh, rfl, _, _, _, h8, hri, ?_⟩
        rw [hrc, ho8 row hrow, hkc, hfp]
        refine ⟨_, _, _, hA', hk12, ?_⟩
        rw [hkc]
        refine ⟨fun q => ?_, fun q => ?_⟩
        · exact no (fun z => absurd z.1 (Int32.not_le.mpr q)) _ ⟨rfl, rfl, rfl, rfl, rfl, rfl, rfl, rfl, rfl, trivial⟩
        refine bX4_ride_46 hX _ _ _ _ _ ⟨_, _, _, hn1, rfl, _, _, _, hs, hpi, ?_⟩
        rw [hpc]
        refine ⟨fun q2 => ?_, fun q2 => ?_⟩
        · exact no (fun z => absurd z.2.1 (Int32.not_lt.mpr q2)) _ ⟨rfl, rfl, rfl, rfl, rfl, rfl, rfl, rfl, rfl, trivial⟩
        refine bX4_ride_58 hX _ _ _ _ _ ⟨_, _, _, hn1, rfl, _, _, _, hs, hti, ?_⟩
        rw [htc]
        refine ⟨fun q3 => ?_, fun q3 => ?_⟩
        · exact no (fun z => absurd z.2.2 (Int32.not_lt.mpr q3)) _ ⟨rfl, rfl, rfl, rfl, rfl, rfl, rfl, rfl, rfl, trivial⟩
        refine bX4_ride_70 hX _ _ _ _ _ ⟨_, _, _, hn1, rfl, _, _, _, hs, hpi, _, _, _, up_ne hn1 hs (by simp), rfl, _, _, _, up_ne hna hs (by simp), hli, ?_⟩
        rw [hlc, hona (lb + 1) (by omega), hpc]
        refine ⟨_, _, _, up_ne hl hs (by simp), hpi, ?_⟩
        rw [hpc]
        refine pz_lsub (lv' := [(8, .inl (nI p)), (7, .inl (nI k)), (6, .inl fe), (5, .inl 1), (0, .inr (.inr (some nt))), (1, .inr (.inr (some h))), (2, .inl (nI row)), (3, .inl (nI (lb + 1))), (4, .inl (nI to))]) ⟨rfl, rfl, rfl, rfl, rfl, rfl, rfl, rfl, rfl, trivial⟩ ?_
        refine j93 (upd so p (A k)) (upd wl p (A k)) 1 _ (hg_up (hg_up hS hs (Or.inl rfl)) (up_ne hl hs (by simp)) (Or.inr rfl)) (up_ne up_at (up_ne hl hs (by simp)) (by simp)) up_at ?_
        unfold rd_1
        dsimp only
        rw [if_pos ⟨Int32.not_lt.mp q, Int32.not_le.mp q2, Int32.not_le.mp q3⟩]
    refine bX4_ride_0 hX _ _ _ _ _ ?_
    exact loop n 0 so0 wl0 0 2147483647 g (by omega) hg_rf hso hwl rfl
