/-! LineTimes: earliest -/
set_option maxRecDepth 20000 in
theorem bX9_earliest_0 {X : pz_C} (hX : pz_X X cX9_earliest 6 RX9) : ∀ lv st g c s, (zo_il 1 1 (zo_il 1 2 (zo_ll 1 3 (pz_Z X 6)))) 0 lv st g c s → pz_Z X 6 0 lv st g c s := (zs_iload_n hX dX9_earliest_0 rfl (zs_iload_n hX dX9_earliest_1 rfl (zs_lload_n hX dX9_earliest_2 rfl (fun _ _ _ _ _ h => h))))
set_option maxRecDepth 20000 in
theorem bX9_earliest_3 {X : pz_C} {G : pz_Gx} {sa md mi : Nat} {PX : String → pz_H → Prop} {rm : Room} (hX : pz_X X cX9_earliest 6 RX9) (hrm : pz_rm X = rm) (hGX : pz_GX X G) (hOk : pz_O3 G sa md mi) (hT : pz_Te X 6 rm PX) (gh : gt_X9_requireJourney) (hr_X9_requireJourney : rm_X9_requireJourney.frames + 1 ≤ rm.frames ∧ 8 + (4 + 11) + rm_X9_requireJourney.locals ≤ rm.locals) : ∀ lv st g c s, (zo_csX rm 3 3 rm_X9_requireJourney.cells rm_X9_requireJourney.slots (pr_X9_requireJourney gh) (po_X9_requireJourney gh) (px_X9_requireJourney gh) (zo_te rm PX) (zo_kv (zo_al 1 0 (zo_get 11 1 (zo_ic 1 (0) (zo_puti 9 1 (zo_il 1 1 (zo_il 1 2 (zo_ic_ne 21 (pz_Z X 6)))))))))) 3 lv st g c s → pz_Z X 6 3 lv st g c s := by
  subst hrm
  exact (zs_csSX hX hGX (ct_X9_requireJourney hOk gh) mw_751171e0 mw_8a698b31 mw_8bb91264 mw_42fba559 (by decide +kernel) hr_X9_requireJourney dX9_earliest_3 (zs_te hT) (zs_kv (zs_aload_n hX dX9_earliest_6 rfl (zs_get hX (C := RX9) (T := TX9) (N := 7) rfl in_X9 (by decide) mw_11019c59 dX9_earliest_7 (zs_iconst hX dX9_earliest_10 (by decide) (zs_puti hX (C := RX7) (T := TX7) (N := 2) rfl in_X7 (by decide) mw_51b83fa8 tyX7 tyX7_ok nmX7 (by decide +kernel) rfl dX9_earliest_11 (zs_iload_n hX dX9_earliest_14 rfl (zs_iload_n hX dX9_earliest_15 rfl (zs_ic_ne hX dX9_earliest_16 (by decide) (fun _ _ _ _ _ _ h => h))))))))))
set_option maxRecDepth 20000 in
theorem bX9_earliest_19 {X : pz_C} {rm : Room} {E : Option pz_V → pz_H → Prop} (hX : pz_X X cX9_earliest 6 RX9) (hR : pz_Rt X cX9_earliest 6 (some .long) rm E) : ∀ lv st g c s, (zo_ll 1 3 (zo_rl rm E)) 19 lv st g c s → pz_Z X 6 19 lv st g c s := (zs_lload_n hX dX9_earliest_19 rfl (zs_rl hR dX9_earliest_20))
set_option maxRecDepth 20000 in
theorem bX9_earliest_21 {X : pz_C} (hX : pz_X X cX9_earliest 6 RX9) : ∀ lv st g c s, (zo_al 1 0 (zo_get 11 0 (zo_il 1 1 (zo_il 1 2 (zo_ll 1 3 (zo_l2i (pz_Z X 6))))))) 21 lv st g c s → pz_Z X 6 21 lv st g c s := (zs_aload_n hX dX9_earliest_21 rfl (zs_get hX (C := RX9) (T := TX9) (N := 7) rfl in_X9 (by decide) mw_a7a80db5 dX9_earliest_22 (zs_iload_n hX dX9_earliest_25 rfl (zs_iload_n hX dX9_earliest_26 rfl (zs_lload_n hX dX9_earliest_27 rfl (zs_l2i hX dX9_earliest_28 (fun _ _ _ _ _ h => h)))))))
set_option maxRecDepth 20000 in
theorem bX9_earliest_29 {X : pz_C} {G : pz_Gx} {sa md mi : Nat} {rm : Room} (hX : pz_X X cX9_earliest 6 RX9) (hrm : pz_rm X = rm) (hGX : pz_GX X G) (hOk : pz_O3 G sa md mi) (gh : gt_X4_findBest) (hr_X4_findBest : rm_X4_findBest.frames + 1 ≤ rm.frames ∧ 8 + (7 + 11) + rm_X4_findBest.locals ≤ rm.locals) : ∀ lv st g c s, (zo_cV rm 6 3 3 rm_X4_findBest.cells rm_X4_findBest.slots (pr_X4_findBest gh) (po_X4_findBest gh) (zo_ki (zo_is 2 5 (zo_il 2 5 (zo_ic 1 (-1) (zo_ic_ne 44 (pz_Z X 6))))))) 29 lv st g c s → pz_Z X 6 29 lv st g c s := by
  subst hrm
  exact (zs_csV hX hGX (C := RX4) (T := TX4) (N := 5) rfl (ct_X4_findBest hOk.1.1 gh) mw_cb026f9f mw_f49e5536 mw_a1c25740 mw_5ae0c28b mw_7db23d59 (by decide +kernel) hr_X4_findBest dX9_earliest_29 (zs_ki (zs_istore hX dX9_earliest_32 (by decide) (zs_iload hX dX9_earliest_34 (zs_iconst hX dX9_earliest_36 (by decide) (zs_ic_ne hX dX9_earliest_37 (by decide) (fun _ _ _ _ _ _ h => h)))))))
set_option maxRecDepth 20000 in
theorem bX9_earliest_40 {X : pz_C} {rm : Room} {E : Option pz_V → pz_H → Prop} (hX : pz_X X cX9_earliest 6 RX9) (hR : pz_Rt X cX9_earliest 6 (some .long) rm E) : ∀ lv st g c s, (zo_lc 3 (-1) (zo_rl rm E)) 40 lv st g c s → pz_Z X 6 40 lv st g c s := (zs_ldc2 hX dX9_earliest_40 mw_2f9ad1fc (zs_rl hR dX9_earliest_43))
set_option maxRecDepth 20000 in
theorem bX9_earliest_44 {X : pz_C} (hX : pz_X X cX9_earliest 6 RX9) : ∀ lv st g c s, (zo_al 1 0 (zo_get 11 0 (zo_al 1 0 (zo_get 11 1 (zo_il 1 2 (zo_il 2 5 (pz_Z X 6))))))) 44 lv st g c s → pz_Z X 6 44 lv st g c s := (zs_aload_n hX dX9_earliest_44 rfl (zs_get hX (C := RX9) (T := TX9) (N := 7) rfl in_X9 (by decide) mw_a7a80db5 dX9_earliest_45 (zs_aload_n hX dX9_earliest_48 rfl (zs_get hX (C := RX9) (T := TX9) (N := 7) rfl in_X9 (by decide) mw_11019c59 dX9_earliest_49 (zs_iload_n hX dX9_earliest_52 rfl (zs_iload hX dX9_earliest_53 (fun _ _ _ _ _ h => h)))))))
set_option maxRecDepth 20000 in
theorem bX9_earliest_55 {X : pz_C} {G : pz_Gx} {sa md mi : Nat} {rm : Room} {E : Option pz_V → pz_H → Prop} (hX : pz_X X cX9_earliest 6 RX9) (hR : pz_Rt X cX9_earliest 6 (some .long) rm E) (hrm : pz_rm X = rm) (hGX : pz_GX X G) (hOk : pz_O3 G sa md mi) (gh : gt_X4_tell) (hr_X4_tell : rm_X4_tell.frames + 1 ≤ rm.frames ∧ 8 + (6 + 11) + rm_X4_tell.locals ≤ rm.locals) : ∀ lv st g c s, (zo_cV rm 6 3 3 rm_X4_tell.cells rm_X4_tell.slots (pr_X4_tell gh) (po_X4_tell gh) (zo_kv (zo_al 1 0 (zo_get 11 0 (zo_get 6 2 (zo_il 2 5 (zo_aald 6 (zo_il 1 2 (zo_iald (zo_i2l (zo_rl rm E))))))))))) 55 lv st g c s → pz_Z X 6 55 lv st g c s := by
  subst hrm
  exact (zs_csV hX hGX (C := RX4) (T := TX4) (N := 5) rfl (ct_X4_tell hOk.1.1 gh) mw_2d97cbfe mw_fb5bd3cc mw_8301676e mw_5ae0c28b mw_bfd437d5 (by decide +kernel) hr_X4_tell dX9_earliest_55 (zs_kv (zs_aload_n hX dX9_earliest_58 rfl (zs_get hX (C := RX9) (T := TX9) (N := 7) rfl in_X9 (by decide) mw_a7a80db5 dX9_earliest_59 (zs_get hX (C := RX4) (T := TX4) (N := 5) rfl in_X4 (by decide) mw_5f9c5ae0 dX9_earliest_62 (zs_iload hX dX9_earliest_65 (zs_aald hX (ty := (.array .int)) (fun _ => rfl) rfl dX9_earliest_67 (zs_iload_n hX dX9_earliest_68 rfl (zs_iald hX dX9_earliest_69 (zs_i2l hX dX9_earliest_70 (zs_rl hR dX9_earliest_71)))))))))))
def neS (g : pz_H) (Wa : Nat → Nat) (so : Nat) : Prop := (∃ W : Nat → Nat → Int32, ∀ i, i < 7 → g (Wa i) = some ([11, i], ar_i 100 (W i))) ∧ ∃ s, g so = some ([12], ar_i 100 s)
theorem neS_mono {g g' : pz_H} {S : List Nat → Prop} (hh : hg S g g') {Wa : Nat → Nat} {so : Nat} (hS : (∀ i, ¬ S [11, i]) ∧ ¬ S [12]) (h : neS g Wa so) : neS g' Wa so := by
  obtain ⟨⟨W, h1⟩, s, h2⟩ := h
  exact ⟨⟨W, fun i hi => hh _ _ _ (h1 i hi) (hS.1 i)⟩, s, hh _ _ _ h2 hS.2⟩
def erSc : List Nat → Prop := fun b => (b = [2] ∨ ∃ i, b = [14, i]) ∨ fbSc b
def rm_X9_earliest : Room := { frames := 8, cells := 3, slots := 18, locals := 150 }
abbrev gt_X9_earliest : Type := (Nat × Int32 × Int32 × Int64) × (Nat × Nat × Nat × Nat) × (Nat × Nat × Nat) × (Nat × Nat × Nat × Nat × Int32 × (Nat → Nat)) × (Nat × (Nat → lr_T) × Nat) × ((Nat → Nat) × (Nat → List (Int32 × Int32)) × (Nat → Int32) × (Nat → Int32)) × (Nat × Nat × (Nat → Nat) × (Nat → Nat → Int32))
def pr_X9_earliest (sa : Nat) : gt_X9_earliest → List pz_V → pz_H → Prop := fun ((h, a, b, t), (nt, wy, lv, tx), (ne, nz, nw), (la, pa, na, so, fd, Wa), (nl, L, U), (fp, Z, N, C), (lg, K, Pa, pf)) av g => av = [.inr (.inr (some (h))), .inl (a), .inl (b), .inr (.inl (t))] ∧ ltS g h nt wy lv tx ne nz nw ∧ ntS g nt la pa na so fd Wa ∧ nlE g la sa nl L U ∧ plS g pa fp Z N C ∧ neS g Wa so ∧ wyS g wy lg (nI K) Pa pf
def po_X9_earliest (sa : Nat) : gt_X9_earliest → List pz_V → pz_H → Option pz_V → pz_H → Prop := fun ((h, a, b, t), (nt, wy, lv, tx), (ne, nz, nw), (la, pa, na, so, fd, Wa), (nl, L, U), (fp, Z, N, C), (lg, K, Pa, pf)) _ g v g' => ¬ jnI a b ∧ ¬ bdR t 0 1700000000 ∧ ∃ fr to T, fr < 100 ∧ a = nI fr ∧ to < 100 ∧ b = nI to ∧ T ≤ 1700000000 ∧ t = lN T ∧ hg erSc g g' ∧ (∃ fd', ntS g' nt la pa na so fd' Wa) ∧ nlE g' la sa nl L U ∧ neS g' Wa so ∧ ((fr = to ∧ v = some (.inr (.inl (lN T))) ∧ wyS g' wy lg (nI 0) Pa pf) ∨ (fr ≠ to ∧ ∃ K so W fl, K ≤ 6 ∧ fb_R L nl (nI T / 86400 - 3) Z C fr to (nI T) K so W fl ∧ (K = 6 ∨ fl K = 0) ∧ ((fb_f (fun k => W k to) K = -1 ∧ v = some (.inr (.inl (-1))) ∧ wyS g' wy lg (nI 0) Pa pf) ∨ ∃ j, 1 ≤ j ∧ j ≤ K ∧ fb_f (fun k => W k to) K = nI j ∧ v = some (.inr (.inl ((W j to).toInt64))) ∧ wyS g' wy lg (nI j) Pa (tw_k L nl (nI T / 86400 - 3) Z C W j (to, pf)).2)))
def px_X9_earliest : gt_X9_earliest → List pz_V → pz_H → String → pz_H → Prop := fun ((h, a, b, t), _) _ g E g' => g' = g ∧ ((E = nIOB ∧ jnI a b) ∨ (E = nIAE ∧ ¬ jnI a b ∧ bdR t 0 1700000000))
set_option maxRecDepth 20000 in
set_option maxHeartbeats 4000000 in
theorem ct_X9_earliest {G : pz_Gx} {sa md mi : Nat} (hOk : pz_O3 G sa md mi) (gh : gt_X9_earliest) : pz_MX G yX9_earliest cX9_earliest 6 (some .long) rm_X9_earliest (pr_X9_earliest sa gh) (po_X9_earliest sa gh) (px_X9_earliest gh) := by
  obtain ⟨⟨h, a, b, t⟩, ⟨nt, wy, lv, tx⟩, ⟨ne, nz, nw⟩, ⟨la, pa, na, so, fd, Wa⟩, ⟨nl, L, U⟩, ⟨fp, Z, N, C⟩, lg, K0, Pa, pf⟩ := gh
  refine pz_ofZX (by decide) hOk.1.1.1 (Or.inr (Or.inr (Or.inr (Or.inl rfl)))) ?_ ?_
  · rintro av g ⟨rfl, -⟩
    exact Nat.le_of_ble_eq_true rfl
  · rintro X hX hGX hrm av g ⟨rfl, hlt, hnt, hnl, hpl, hne, hwy⟩ hR hT -
    refine bX9_earliest_0 hX _ _ _ _ _ ?_
    refine bX9_earliest_3 hX hrm hGX hOk hT (a, b, t) (by decide) _ _ _ _ _ ⟨Nat.le_of_ble_eq_true rfl, Nat.le_of_ble_eq_true rfl, Nat.le_of_ble_eq_true rfl, Nat.le_of_ble_eq_true rfl, rfl, ?_, ?_⟩
    · rintro E g2 ⟨rfl, ⟨rfl, hb⟩ | ⟨rfl, h1, h2, h3⟩⟩
      · exact ⟨Nat.le_of_ble_eq_true rfl, Nat.le_of_ble_eq_true rfl, rfl, Or.inl ⟨rfl, hb⟩⟩
      · exact ⟨Nat.le_of_ble_eq_true rfl, Nat.le_of_ble_eq_true rfl, rfl, Or.inr ⟨rfl, fun e => (by rcases e with e | e; exact h1 e; exact h2 e), h3⟩⟩
    rintro v g2 ⟨rfl, rfl, h1, h2, h3⟩ -
    have hJ : ¬ jnI a b := fun e => by rcases e with e | e; exact h1 e; exact h2 e
    obtain ⟨fr, hfr, rfl⟩ := bI_nI (b := 100) (by omega) h1
    obtain ⟨to, hto, rfl⟩ := bI_nI (b := 100) (by omega) h2
    obtain ⟨T, hT', rfl⟩ := bR_nI (b := 1700000000) (by omega) h3
    refine ⟨_, _, _, hlt, rfl, _, _, hwy.1, Nat.le_of_ble_eq_true rfl, ?_⟩
    show _ ∧ _
    generalize hg3 : va_up g2 wy _ = g3
    have t3 : hg (fun b => b = [2]) g2 g3 := by rw [← hg3]; exact hg_up hg_rf hwy.1 rfl
    have hwy3 : wyS g3 wy lg (nI 0) Pa pf := by
      obtain ⟨w1, ⟨o, w2, w3⟩, w4⟩ := hwy
      exact ⟨by rw [← hg3]; exact up_at, ⟨o, t3 _ _ _ w2 (by simp), w3⟩, fun i hi => t3 _ _ _ (w4 i hi) (by simp)⟩
    clear hg3
    have hlt3 : ltS g3 h nt wy lv tx ne nz nw := t3 _ _ _ hlt (by simp)
    have hnt3 := ntS_mono t3 (by simp) hnt
    have hpl3 := plS_mono t3 (by simp) hpl
    have hne3 := neS_mono t3 (by simp) hne
    have hnl3 := nlE_mono t3 (by simp) (fun u _ b hb x r e => by rw [hb] at e; injection e with _ e; injection e) hnl
    have T3 : hg erSc g2 g3 := hg_mono t3 (fun b hb => Or.inl (Or.inl hb))
    refine ⟨fun hft => ?_, fun hft => ?_⟩
    rotate_left
    · have eft : fr = to := ni_inj (by omega) (by omega) hft
      exact bX9_earliest_19 hX hR _ _ _ _ _ ⟨Nat.le_of_ble_eq_true rfl, Nat.le_of_ble_eq_true rfl, hJ, h3, fr, to, T, hfr, rfl, hto, rfl, hT', rfl, T3, ⟨_, hnt3⟩, hnl3, hne3, Or.inl ⟨eft, rfl, hwy3⟩⟩
    have eft : fr ≠ to := fun e => hft (by rw [e])
    refine bX9_earliest_21 hX _ _ _ _ _ ⟨_, _, _, hlt3, rfl, ?_⟩
    show pz_Z X 6 29 [(0, .inr (.inr (some (h)))), (1, .inl (nI fr)), (2, .inl (nI to)), (3, .inr (.inl (lN T)))] [.inl ((lN T).toInt32), .inl (nI to), .inl (nI fr), .inr (.inr (some (nt)))] g3 3 18
    rw [lN_i]
    refine bX9_earliest_29 hX hrm hGX hOk ((nt, fr, to, nI T), (la, pa, na, so), fd, Wa, (nl, L), (fp, Z, N, C)) (by decide) _ _ _ _ _ ⟨Nat.le_of_ble_eq_true rfl, ⟨nt, [.inl (nI fr), .inl (nI to), .inl (nI T)], [1], _, rfl, hnt3.1⟩, Nat.le_of_ble_eq_true rfl, Nat.le_of_ble_eq_true rfl, Nat.le_of_ble_eq_true rfl, ⟨rfl, hfr, hto, hnt3, nlE_S hnl3, fun i hi => (hnl3.2.2.1 i hi).2.1, hpl3, hne3.1, hne3.2⟩, ?_⟩
    rintro v g4 ⟨t4, hnt4, hW4, K, so', W, fl, hK6, hfb, hKf, rfl, ⟨W', hW'1, hW'2⟩, hso⟩ z hz
    cases hz
    have hlt4 : ltS g4 h nt wy lv tx ne nz nw := t4 _ _ _ hlt3 (by simp [fbSc, lnSc])
    have hnl4 := nlE_w t4 (by simp [fbSc, lnSc]) (by simp [fbSc, lnSc]) (fun i hi => by obtain ⟨rn, A, B, w, _⟩ := hW4 i hi; exact ⟨rn, A, B, w⟩) hnl3
    have hpl4 := plS_mono t4 (by simp [fbSc, lnSc]) hpl3
    have hwy4 : wyS g4 wy lg (nI 0) Pa pf := by
      obtain ⟨w1, ⟨o, w2, w3⟩, w4⟩ := hwy3
      exact ⟨t4 _ _ _ w1 (by simp [fbSc, lnSc]), ⟨o, t4 _ _ _ w2 (by simp [fbSc, lnSc]), w3⟩, fun i hi => t4 _ _ _ (w4 i hi) (by simp [fbSc, lnSc])⟩
    have T4 : hg erSc g2 g4 := hg_tr T3 (hg_mono t4 (fun b hb => Or.inr hb))
    have hne4 : neS g4 Wa so := ⟨⟨W', hW'2⟩, _, hso⟩
    rcases q_fbf (x := fun k => W k to) K with ⟨hf, _⟩ | ⟨j, hj1, hj2, hf, _⟩
    · refine ⟨fun q => absurd hf q, fun _ => ?_⟩
      exact bX9_earliest_40 hX hR _ _ _ _ _ ⟨Nat.le_of_ble_eq_true rfl, Nat.le_of_ble_eq_true rfl, hJ, h3, fr, to, T, hfr, rfl, hto, rfl, hT', rfl, T4, ⟨_, hnt4⟩, hnl4, hne4, Or.inr ⟨eft, K, so', W, fl, hK6, hfb, hKf, Or.inl ⟨hf, rfl, hwy4⟩⟩⟩
    have hjn : ¬ nI j = -1 := fun e => by
      have h := congrArg Int32.toInt e
      rw [nI_toInt (by omega), show (-1 : Int32).toInt = -1 from rfl] at h
      omega
    refine ⟨fun _ => ?_, fun q => absurd (hf.symm.trans q) hjn⟩
    refine bX9_earliest_44 hX _ _ _ _ _ ⟨_, _, _, hlt4, rfl, _, _, _, hlt4, rfl, ?_⟩
    show pz_Z X 6 55 [(5, .inl (fb_f (fun k => W k to) K)), (0, .inr (.inr (some (h)))), (1, .inl (nI fr)), (2, .inl (nI to)), (3, .inr (.inl (lN T)))] [.inl (fb_f (fun k => W k to) K), .inl (nI to), .inr (.inr (some (wy))), .inr (.inr (some (nt)))] g4 3 18
    rw [hf]
    refine bX9_earliest_55 hX hR hrm hGX hOk ((nt, wy, to, j), (lg, nI 0, Pa, pf), (la, pa, na, so), (nI T / 86400 - 3), Wa, W, (nl, L), (fp, Z, N, C)) (by decide) _ _ _ _ _ ⟨Nat.le_of_ble_eq_true rfl, ⟨nt, [.inr (.inr (some (wy))), .inl (nI to), .inl (nI j)], [1], _, rfl, hnt4.1⟩, Nat.le_of_ble_eq_true rfl, Nat.le_of_ble_eq_true rfl, Nat.le_of_ble_eq_true rfl, ⟨rfl, by omega, hto, hnt4, nlE_S hnl4, hW4, hpl4, fun i hi => ?_, hwy4⟩, ?_⟩
    · rw [← hW'1 i (by omega)]
      exact hW'2 i (by omega)
    rintro v g5 ⟨rfl, t5, hwy5⟩ -
    have hlt5 : ltS g5 h nt wy lv tx ne nz nw := t5 _ _ _ hlt4 (by simp)
    have hnt5 := ntS_mono t5 (by simp) hnt4
    have hne5 := neS_mono t5 (by simp) hne4
    have hnl5 := nlE_w t5 (by simp) (by simp) (fun i hi => by
      obtain ⟨rn, A, B, w, _⟩ := hW4 i hi
      exact ⟨rn, A, B, lrT_mono t5 _ (by simp) w⟩) hnl4
    have T5 : hg erSc g2 g5 := hg_tr T4 (hg_mono t5 (fun b hb => Or.inl hb))
    obtain ⟨n1, o, n2, n3⟩ := id hnt5
    have cj : g5 (Wa j) = some ([11, j], ar_i 100 (W j)) := t5 _ _ _ (by rw [← hW'1 j (by omega)]; exact hW'2 j (by omega)) (by simp)
    refine ⟨_, _, _, hlt5, rfl, _, _, _, n1, rfl, _, _, _, n2, ni_in (by omega) (by omega), ?_⟩
    rw [ni_cl (by omega), n3 j (by omega)]
    refine ⟨_, _, _, cj, ni_in (by omega) (by omega), ?_⟩
    rw [ni_cl (by omega)]
    exact ⟨Nat.le_of_ble_eq_true rfl, Nat.le_of_ble_eq_true rfl, hJ, h3, fr, to, T, hfr, rfl, hto, rfl, hT', rfl, T5, ⟨_, hnt5⟩, hnl5, hne5, Or.inr ⟨eft, K, so', W, fl, hK6, hfb, hKf, Or.inr ⟨j, hj1, hj2, hf, rfl, hwy5⟩⟩⟩
