/-! LineTimes$Net.tell: the legs from the last to the first -/
def wyS (g : pz_H) (wy lg : Nat) (cnt : Int32) (Pa : Nat → Nat) (pf : Nat → Nat → Int32) : Prop := g wy = some ([2], .inr (9, [.inr (.inr (some lg)), .inl cnt])) ∧ (∃ o, g lg = some ([13], ar_r 6 6 o) ∧ ∀ i, i < 6 → o i = some (Pa i)) ∧ ∀ i, i < 6 → g (Pa i) = some ([14, i], ar_i 6 (pf i))
theorem wyS_mono {g g' : pz_H} {S : List Nat → Prop} (hh : hg S g g') {wy lg : Nat} {cnt : Int32} {Pa : Nat → Nat} {pf : Nat → Nat → Int32} (hS : ¬ S [2] ∧ ¬ S [13] ∧ ∀ i, ¬ S [14, i]) (h : wyS g wy lg cnt Pa pf) : wyS g' wy lg cnt Pa pf := by
  obtain ⟨h1, ⟨o, h2, h3⟩, h4⟩ := h
  exact ⟨hh _ _ _ h1 hS.1, ⟨o, hh _ _ _ h2 hS.2.1, h3⟩, fun i hi => hh _ _ _ (h4 i hi) (hS.2.2 i)⟩
/-- one leg told: lb + 1 its number, pl where it ends; where the legs before it end, and the legs -/
def tw_1 (L : Nat → lr_T) (nl : Nat) (fd : Int32) (Z : Nat → List (Int32 × Int32)) (C : Nat → Int32) (W : Nat → Nat → Int32) (lb : Nat) : Nat × (Nat → Nat → Int32) → Nat × (Nat → Nat → Int32) := fun (pl, pf) => match tl_n L fd Z lb (W lb) (W (lb + 1)) C pl 0 nl with
  | none => (pl, pf)
  | some q => ((lr_f1 (L q.1) q.2.2.2).toNatClampNeg, seqU pf lb (tl_p L fd Z (pf lb) q))
def tw_k (L : Nat → lr_T) (nl : Nat) (fd : Int32) (Z : Nat → List (Int32 × Int32)) (C : Nat → Int32) (W : Nat → Nat → Int32) : Nat → Nat × (Nat → Nat → Int32) → Nat × (Nat → Nat → Int32)
  | 0, s => s
  | k + 1, s => tw_k L nl fd Z C W k (tw_1 L nl fd Z C W k s)
set_option maxRecDepth 20000 in
theorem bX4_tell_0 {X : pz_C} (hX : pz_X X cX4_tell 6 RX4) : ∀ lv st g c s, (zo_al 1 1 (zo_il 1 3 (zo_puti 9 1 (zo_il 1 2 (zo_is 2 4 (zo_il 1 3 (zo_is 2 5 (pz_Z X 6)))))))) 0 lv st g c s → pz_Z X 6 0 lv st g c s := (zs_aload_n hX dX4_tell_0 rfl (zs_iload_n hX dX4_tell_1 rfl (zs_puti hX (C := RX7) (T := TX7) (N := 2) rfl in_X7 (by decide) mw_905299b9 tyX7 tyX7_ok nmX7 (by decide +kernel) rfl dX4_tell_2 (zs_iload_n hX dX4_tell_5 rfl (zs_istore hX dX4_tell_6 (by decide) (zs_iload_n hX dX4_tell_8 rfl (zs_istore hX dX4_tell_9 (by decide) (fun _ _ _ _ _ h => h))))))))
set_option maxRecDepth 20000 in
theorem bX4_tell_11 {X : pz_C} (hX : pz_X X cX4_tell 6 RX4) : ∀ lv st g c s, (zo_il 2 5 (zo_if_le 41 (pz_Z X 6))) 11 lv st g c s → pz_Z X 6 11 lv st g c s := (zs_iload hX dX4_tell_11 (zs_if_le hX dX4_tell_13 (by decide) (fun _ _ _ _ _ _ h => h)))
set_option maxRecDepth 20000 in
theorem bX4_tell_16 {X : pz_C} (hX : pz_X X cX4_tell 6 RX4) : ∀ lv st g c s, (zo_al 1 0 (zo_al 1 1 (zo_get 9 0 (zo_il 2 5 (zo_ic 1 (1) (zo_isub (zo_aald 6 (zo_il 2 4 (zo_il 2 5 (pz_Z X 6)))))))))) 16 lv st g c s → pz_Z X 6 16 lv st g c s := (zs_aload_n hX dX4_tell_16 rfl (zs_aload_n hX dX4_tell_17 rfl (zs_get hX (C := RX7) (T := TX7) (N := 2) rfl in_X7 (by decide) mw_4049032c dX4_tell_18 (zs_iload hX dX4_tell_21 (zs_iconst hX dX4_tell_23 (by decide) (zs_isub hX dX4_tell_24 (zs_aald hX (ty := (.array .int)) (fun _ => rfl) rfl dX4_tell_25 (zs_iload hX dX4_tell_26 (zs_iload hX dX4_tell_28 (fun _ _ _ _ _ h => h))))))))))
set_option maxRecDepth 20000 in
theorem bX4_tell_30 {X : pz_C} {G : pz_Gx} {rm : Room} (hX : pz_X X cX4_tell 6 RX4) (hrm : pz_rm X = rm) (hGX : pz_GX X G) (hOk : pz_OK G) (gh : gt_X4_tellLastLeg) (hr_X4_tellLastLeg : rm_X4_tellLastLeg.frames + 1 ≤ rm.frames ∧ 8 + (7 + 11) + rm_X4_tellLastLeg.locals ≤ rm.locals) : ∀ lv st g c s, (zo_cV rm 6 3 3 rm_X4_tellLastLeg.cells rm_X4_tellLastLeg.slots (pr_X4_tellLastLeg gh) (po_X4_tellLastLeg gh) (zo_ki (zo_is 2 4 (zo_inc 5 (-1) (zo_goto 11 (pz_Z X 6)))))) 30 lv st g c s → pz_Z X 6 30 lv st g c s := by
  subst hrm
  exact (zs_csV hX hGX (C := RX4) (T := TX4) (N := 5) rfl (ct_X4_tellLastLeg hOk gh) mw_7fad718e mw_aa04a5a2 mw_a4245f78 mw_5ae0c28b mw_20a1b810 (by decide +kernel) hr_X4_tellLastLeg dX4_tell_30 (zs_ki (zs_istore hX dX4_tell_33 (by decide) (zs_iinc hX dX4_tell_35 (by decide) (by decide) (zs_goto hX dX4_tell_38 (by decide) (fun _ _ _ _ _ _ h => h))))))
set_option maxRecDepth 20000 in
theorem bX4_tell_41 {X : pz_C} {rm : Room} {E : Option pz_V → pz_H → Prop} (hX : pz_X X cX4_tell 6 RX4) (hR : pz_Rt X cX4_tell 6 none rm E) : ∀ lv st g c s, (zo_rv rm E) 41 lv st g c s → pz_Z X 6 41 lv st g c s := (zs_rv hR dX4_tell_41)
def rm_X4_tell : Room := { frames := 4, cells := 0, slots := 0, locals := 104 }
abbrev gt_X4_tell : Type := (Nat × Nat × Nat × Nat) × (Nat × Int32 × (Nat → Nat) × (Nat → Nat → Int32)) × (Nat × Nat × Nat × Nat) × Int32 × (Nat → Nat) × (Nat → Nat → Int32) × (Nat × (Nat → lr_T)) × ((Nat → Nat) × (Nat → List (Int32 × Int32)) × (Nat → Int32) × (Nat → Int32))
def pr_X4_tell : gt_X4_tell → List pz_V → pz_H → Prop := fun ((nt, wy, to, k), (lg, cnt, Pa, pf), (la, pa, na, sa), fd, Wa, W, (nl, L), (fp, Z, N, C)) av g => av = [.inr (.inr (some nt)), .inr (.inr (some wy)), .inl (nI to), .inl (nI k)] ∧ k ≤ 6 ∧ to < 100 ∧ ntS g nt la pa na sa fd Wa ∧ nlS g la nl L ∧ (∀ i, i < nl → lrW g (L i) fd Z) ∧ plS g pa fp Z N C ∧ (∀ i, i ≤ k → g (Wa i) = some ([11, i], ar_i 100 (W i))) ∧ wyS g wy lg cnt Pa pf
def po_X4_tell : gt_X4_tell → List pz_V → pz_H → Option pz_V → pz_H → Prop := fun ((_, wy, to, k), (lg, _, Pa, pf), _, fd, _, W, (nl, L), (_, Z, _, C)) _ g v g' => v = none ∧ hg (fun b => b = [2] ∨ ∃ i, b = [14, i]) g g' ∧ wyS g' wy lg (nI k) Pa (tw_k L nl fd Z C W k (to, pf)).2
set_option maxRecDepth 20000 in
set_option maxHeartbeats 4000000 in
theorem ct_X4_tell {G : pz_Gx} (hOk : pz_OK G) (gh : gt_X4_tell) : pz_M G yX4_tell cX4_tell 6 none rm_X4_tell (pr_X4_tell gh) (po_X4_tell gh) := by
  obtain ⟨⟨nt, wy, to, kk⟩, ⟨lg, cnt, Pa, pf0⟩, ⟨la, pa, na, sa⟩, fd, Wa, W, ⟨nl, L⟩, fp, Z, N, C⟩ := gh
  refine pz_ofZ (by decide) hOk.1 (Or.inl rfl) ?_ ?_
  · rintro av g ⟨rfl, -⟩
    exact Nat.le_of_ble_eq_true rfl
  · rintro X hX hGX hrm - av g ⟨rfl, hk6, hto, hnt, hnl, hWl, hpS, hWa, hwy⟩ hR
    have loop : ∀ (k pl : Nat) (pf : Nat → Nat → Int32) (gk : pz_H), k ≤ kk → pl < 100 → hg (fun b => b = [2] ∨ ∃ i, b = [14, i]) g gk → wyS gk wy lg (nI kk) Pa pf → tw_k L nl fd Z C W k (pl, pf) = tw_k L nl fd Z C W kk (to, pf0) → pz_Z X 6 11 [(5, .inl (nI k)), (4, .inl (nI pl)), (0, .inr (.inr (some nt))), (1, .inr (.inr (some wy))), (2, .inl (nI to)), (3, .inl (nI kk))] [] gk 0 0 := by
      intro k
      induction k with
      | zero =>
        intro pl pf gk hk hpl hS hw he
        refine bX4_tell_11 hX _ _ _ _ _ ⟨fun _ => ?_, fun q => absurd (by decide) q⟩
        refine bX4_tell_41 hX hR _ _ _ _ _ ⟨Nat.le_refl _, Nat.le_refl _, rfl, hS, ?_⟩
        rw [← he]
        exact hw
      | succ k ih =>
        intro pl pf gk hk hpl hS hw he
        obtain ⟨hw1, ⟨o, hlg, ho⟩, hpa⟩ := id hw
        have ep : nI (k + 1) - 1 = nI k := ni_pred (n := k + 1) (by omega)
        refine bX4_tell_11 hX _ _ _ _ _ ⟨fun q => absurd q (nI_nle (by omega) (by omega)), fun _ => ?_⟩
        refine bX4_tell_16 hX _ _ _ _ _ ⟨_, _, _, hw1, rfl, _, _, _, hlg, ?_, ?_⟩
        · rw [ep]; exact ni_in (by omega) (by omega)
        rw [ep, ni_cl (by omega), ho k (by omega)]
        have hnt' := ntS_mono hS (by simp) hnt
        have hnl' := nlS_mono hS (by simp) hnl
        refine bX4_tell_30 hX hrm hGX hOk ((nt, Pa k, pl, k), (k, pf k), (la, pa, na, sa), fd, Wa, (W k, W (k + 1)), (nl, L), (fp, Z, N, C)) (by decide) _ _ _ _ _ ⟨Nat.le_of_ble_eq_true rfl, ⟨nt, [.inr (.inr (some (Pa k))), .inl (nI pl), .inl (nI (k + 1))], [1], _, rfl, hnt'.1⟩, Nat.le_of_ble_eq_true rfl, Nat.le_of_ble_eq_true rfl, Nat.le_of_ble_eq_true rfl, ⟨rfl, by omega, hpl, hnt', hnl', fun i hi => lrW_mono hS (L i) (by simp) (hWl i hi), plS_mono hS (by simp) hpS, hS _ _ _ (hWa k (by omega)) (by simp), hS _ _ _ (hWa (k + 1) (by omega)) (by simp), hpa k (by omega)⟩, ?_⟩
        have he2 : tw_k L nl fd Z C W k (tw_1 L nl fd Z C W k (pl, pf)) = tw_k L nl fd Z C W kk (to, pf0) := he
        have em : some (Sum.inl (nI (k + 1) + (-1)) : pz_V) = some (Sum.inl (nI k)) := by rw [pk_m1]
        rintro v g2 (⟨hno, rfl, rfl⟩ | ⟨i, r, left, e, hso, hi, hen, rfl, rfl⟩) x hx
        · cases hx
          refine pz_lsub (lv' := [(5, .inl (nI k)), (4, .inl (nI pl)), (0, .inr (.inr (some nt))), (1, .inr (.inr (some wy))), (2, .inl (nI to)), (3, .inl (nI kk))]) ⟨em, rfl, rfl, rfl, rfl, rfl, trivial⟩ ?_
          refine ih pl pf g2 (by omega) hpl hS hw ?_
          rw [← he2]
          unfold tw_1
          dsimp only
          rw [hno]
        · cases hx
          obtain ⟨p, hp, hfp⟩ : ∃ p, p < 100 ∧ lr_f1 (L i) e = nI p := (hnl.2.2.1 i hi).2.2.2.2.2.2 e hen
          have hpk := hpa k (by omega)
          rw [hfp]
          refine pz_lsub (lv' := [(5, .inl (nI k)), (4, .inl (nI p)), (0, .inr (.inr (some nt))), (1, .inr (.inr (some wy))), (2, .inl (nI to)), (3, .inl (nI kk))]) ⟨em, rfl, rfl, rfl, rfl, rfl, trivial⟩ ?_
          refine ih p (seqU pf k (tl_p L fd Z (pf k) (i, r, left, e))) _ (by omega) hp (hg_up hS hpk (Or.inr ⟨_, rfl⟩)) ⟨up_ne hw1 hpk (by simp), ⟨o, up_ne hlg hpk (by simp), ho⟩, fun j hj => ?_⟩ ?_
          · unfold seqU
            by_cases ejk : j = k
            · subst ejk; rw [if_pos rfl]; exact up_at
            · rw [if_neg ejk]; exact up_ne (hpa j hj) hpk (by simp [ejk])
          · rw [← he2]
            unfold tw_1
            dsimp only
            rw [hso]
            dsimp only
            rw [hfp, ni_cl (j := p) (by omega)]
    obtain ⟨hw1, ⟨o, hlg, ho⟩, hpa⟩ := id hwy
    refine bX4_tell_0 hX _ _ _ _ _ ⟨_, _, hw1, Nat.le_of_ble_eq_true rfl, ?_⟩
    refine pz_lsub (lv' := [(5, .inl (nI kk)), (4, .inl (nI to)), (0, .inr (.inr (some nt))), (1, .inr (.inr (some wy))), (2, .inl (nI to)), (3, .inl (nI kk))]) ⟨rfl, rfl, rfl, rfl, rfl, rfl, trivial⟩ ?_
    exact loop kk to pf0 _ (Nat.le_refl _) hto (hg_up hg_rf hw1 (Or.inl rfl)) ⟨up_at, ⟨o, up_ne hlg hw1 (by simp), ho⟩, fun i hi => up_ne (hpa i hi) hw1 (by simp)⟩ rfl
/-! LineTimes$Leavings.note: a time put in its place among the first few -/
set_option maxRecDepth 20000 in
theorem bX2_note_0 {X : pz_C} (hX : pz_X X cX2_note 3 RX2) : ∀ lv st g c s, (zo_al 1 0 (zo_get 4 1 (zo_al 1 0 (zo_get 4 2 (zo_ic_ge 24 (pz_Z X 3)))))) 0 lv st g c s → pz_Z X 3 0 lv st g c s := (zs_aload_n hX dX2_note_0 rfl (zs_get hX (C := RX2) (T := TX2) (N := 3) rfl in_X2 (by decide) mw_78ccfceb dX2_note_1 (zs_aload_n hX dX2_note_4 rfl (zs_get hX (C := RX2) (T := TX2) (N := 3) rfl in_X2 (by decide) mw_ace7bf61 dX2_note_5 (zs_ic_ge hX dX2_note_8 (by decide) (fun _ _ _ _ _ _ h => h))))))
set_option maxRecDepth 20000 in
theorem bX2_note_11 {X : pz_C} (hX : pz_X X cX2_note 3 RX2) : ∀ lv st g c s, (zo_al 1 0 (zo_dup (zo_get 4 1 (zo_ic 1 (1) (zo_iadd (zo_puti 4 1 (zo_goto 47 (pz_Z X 3)))))))) 11 lv st g c s → pz_Z X 3 11 lv st g c s := (zs_aload_n hX dX2_note_11 rfl (zs_dup hX dX2_note_12 (zs_get hX (C := RX2) (T := TX2) (N := 3) rfl in_X2 (by decide) mw_78ccfceb dX2_note_13 (zs_iconst hX dX2_note_16 (by decide) (zs_iadd hX dX2_note_17 (zs_puti hX (C := RX2) (T := TX2) (N := 3) rfl in_X2 (by decide) mw_78ccfceb tyX2 tyX2_ok nmX2 (by decide +kernel) rfl dX2_note_18 (zs_goto hX dX2_note_21 (by decide) (fun _ _ _ _ _ _ h => h))))))))
set_option maxRecDepth 20000 in
theorem bX2_note_24 {X : pz_C} (hX : pz_X X cX2_note 3 RX2) : ∀ lv st g c s, (zo_al 1 0 (zo_get 4 1 (zo_if_eq 46 (pz_Z X 3)))) 24 lv st g c s → pz_Z X 3 24 lv st g c s := (zs_aload_n hX dX2_note_24 rfl (zs_get hX (C := RX2) (T := TX2) (N := 3) rfl in_X2 (by decide) mw_78ccfceb dX2_note_25 (zs_if_eq hX dX2_note_28 (by decide) (fun _ _ _ _ _ _ h => h))))
set_option maxRecDepth 20000 in
theorem bX2_note_31 {X : pz_C} (hX : pz_X X cX2_note 3 RX2) : ∀ lv st g c s, (zo_il 1 1 (zo_al 1 0 (zo_get 4 0 (zo_al 1 0 (zo_get 4 1 (zo_ic 1 (1) (zo_isub (zo_iald (zo_ic_lt 47 (pz_Z X 3)))))))))) 31 lv st g c s → pz_Z X 3 31 lv st g c s := (zs_iload_n hX dX2_note_31 rfl (zs_aload_n hX dX2_note_32 rfl (zs_get hX (C := RX2) (T := TX2) (N := 3) rfl in_X2 (by decide) mw_73b11fd4 dX2_note_33 (zs_aload_n hX dX2_note_36 rfl (zs_get hX (C := RX2) (T := TX2) (N := 3) rfl in_X2 (by decide) mw_78ccfceb dX2_note_37 (zs_iconst hX dX2_note_40 (by decide) (zs_isub hX dX2_note_41 (zs_iald hX dX2_note_42 (zs_ic_lt hX dX2_note_43 (by decide) (fun _ _ _ _ _ _ h => h))))))))))
set_option maxRecDepth 20000 in
theorem bX2_note_46 {X : pz_C} {rm : Room} {E : Option pz_V → pz_H → Prop} (hX : pz_X X cX2_note 3 RX2) (hR : pz_Rt X cX2_note 3 none rm E) : ∀ lv st g c s, (zo_rv rm E) 46 lv st g c s → pz_Z X 3 46 lv st g c s := (zs_rv hR dX2_note_46)
set_option maxRecDepth 20000 in
theorem bX2_note_47 {X : pz_C} (hX : pz_X X cX2_note 3 RX2) : ∀ lv st g c s, (zo_al 1 0 (zo_get 4 1 (zo_ic 1 (1) (zo_isub (zo_is 1 2 (pz_Z X 3)))))) 47 lv st g c s → pz_Z X 3 47 lv st g c s := (zs_aload_n hX dX2_note_47 rfl (zs_get hX (C := RX2) (T := TX2) (N := 3) rfl in_X2 (by decide) mw_78ccfceb dX2_note_48 (zs_iconst hX dX2_note_51 (by decide) (zs_isub hX dX2_note_52 (zs_istore_n hX dX2_note_53 rfl (by decide) (fun _ _ _ _ _ h => h))))))
set_option maxRecDepth 20000 in
theorem bX2_note_54 {X : pz_C} (hX : pz_X X cX2_note 3 RX2) : ∀ lv st g c s, (zo_il 1 2 (zo_if_le 90 (pz_Z X 3))) 54 lv st g c s → pz_Z X 3 54 lv st g c s := (zs_iload_n hX dX2_note_54 rfl (zs_if_le hX dX2_note_55 (by decide) (fun _ _ _ _ _ _ h => h)))
set_option maxRecDepth 20000 in
theorem bX2_note_58 {X : pz_C} (hX : pz_X X cX2_note 3 RX2) : ∀ lv st g c s, (zo_al 1 0 (zo_get 4 0 (zo_il 1 2 (zo_ic 1 (1) (zo_isub (zo_iald (zo_il 1 1 (zo_ic_le 90 (pz_Z X 3))))))))) 58 lv st g c s → pz_Z X 3 58 lv st g c s := (zs_aload_n hX dX2_note_58 rfl (zs_get hX (C := RX2) (T := TX2) (N := 3) rfl in_X2 (by decide) mw_73b11fd4 dX2_note_59 (zs_iload_n hX dX2_note_62 rfl (zs_iconst hX dX2_note_63 (by decide) (zs_isub hX dX2_note_64 (zs_iald hX dX2_note_65 (zs_iload_n hX dX2_note_66 rfl (zs_ic_le hX dX2_note_67 (by decide) (fun _ _ _ _ _ _ h => h)))))))))
set_option maxRecDepth 20000 in
theorem bX2_note_70 {X : pz_C} (hX : pz_X X cX2_note 3 RX2) : ∀ lv st g c s, (zo_al 1 0 (zo_get 4 0 (zo_il 1 2 (zo_al 1 0 (zo_get 4 0 (zo_il 1 2 (zo_ic 1 (1) (zo_isub (zo_iald (zo_iast (zo_inc 2 (-1) (zo_goto 54 (pz_Z X 3))))))))))))) 70 lv st g c s → pz_Z X 3 70 lv st g c s := (zs_aload_n hX dX2_note_70 rfl (zs_get hX (C := RX2) (T := TX2) (N := 3) rfl in_X2 (by decide) mw_73b11fd4 dX2_note_71 (zs_iload_n hX dX2_note_74 rfl (zs_aload_n hX dX2_note_75 rfl (zs_get hX (C := RX2) (T := TX2) (N := 3) rfl in_X2 (by decide) mw_73b11fd4 dX2_note_76 (zs_iload_n hX dX2_note_79 rfl (zs_iconst hX dX2_note_80 (by decide) (zs_isub hX dX2_note_81 (zs_iald hX dX2_note_82 (zs_iast hX dX2_note_83 (zs_iinc hX dX2_note_84 (by decide) (by decide) (zs_goto hX dX2_note_87 (by decide) (fun _ _ _ _ _ _ h => h)))))))))))))
set_option maxRecDepth 20000 in
theorem bX2_note_90 {X : pz_C} {rm : Room} {E : Option pz_V → pz_H → Prop} (hX : pz_X X cX2_note 3 RX2) (hR : pz_Rt X cX2_note 3 none rm E) : ∀ lv st g c s, (zo_al 1 0 (zo_get 4 0 (zo_il 1 2 (zo_il 1 1 (zo_iast (zo_rv rm E)))))) 90 lv st g c s → pz_Z X 3 90 lv st g c s := (zs_aload_n hX dX2_note_90 rfl (zs_get hX (C := RX2) (T := TX2) (N := 3) rfl in_X2 (by decide) mw_73b11fd4 dX2_note_91 (zs_iload_n hX dX2_note_94 rfl (zs_iload_n hX dX2_note_95 rfl (zs_iast hX dX2_note_96 (zs_rv hR dX2_note_97))))))
def lvS (g : pz_H) (lv ti : Nat) (c w : Nat) (f : Nat → Int32) : Prop := g lv = some ([3], .inr (4, [.inr (.inr (some ti)), .inl (nI c), .inl (nI w)])) ∧ g ti = some ([15], ar_i 101 f)
theorem lvS_mono {g g' : pz_H} {S : List Nat → Prop} (hh : hg S g g') {lv ti c w : Nat} {f : Nat → Int32} (hS : ¬ S [3] ∧ ¬ S [15]) (h : lvS g lv ti c w f) : lvS g' lv ti c w f := ⟨hh _ _ _ h.1 hS.1, hh _ _ _ h.2 hS.2⟩
/-- the time x goes down from place at to where the ones ahead are not later -/
def lv_in (x : Int32) : Nat → (Nat → Int32) → Nat → Int32
  | 0, f => upd f 0 x
  | a + 1, f => if x < f a then lv_in x a (upd f (a + 1) (f a)) else upd f (a + 1) x
def lv_nt (w : Nat) (x : Int32) : Nat × (Nat → Int32) → Nat × (Nat → Int32) := fun (c, f) => if c < w then (c + 1, lv_in x c f) else if c = 0 then (c, f) else if x < f (c - 1) then (c, lv_in x (c - 1) f) else (c, f)
def rm_X2_note : Room := { frames := 0, cells := 0, slots := 0, locals := 0 }
abbrev gt_X2_note : Type := (Nat × Int32) × Nat × (Nat × Nat) × (Nat → Int32)
def pr_X2_note : gt_X2_note → List pz_V → pz_H → Prop := fun ((l, x), ti, (c, w), f) av g => av = [.inr (.inr (some l)), .inl x] ∧ c ≤ w ∧ w ≤ 101 ∧ lvS g l ti c w f
def po_X2_note : gt_X2_note → List pz_V → pz_H → Option pz_V → pz_H → Prop := fun ((l, x), ti, (c, w), f) _ g v g' => v = none ∧ hg (fun b => b = [3] ∨ b = [15]) g g' ∧ lvS g' l ti (lv_nt w x (c, f)).1 w (lv_nt w x (c, f)).2
set_option maxRecDepth 20000 in
set_option maxHeartbeats 4000000 in
theorem ct_X2_note {G : pz_Gx} (hOk : pz_OK G) (gh : gt_X2_note) : pz_M G yX2_note cX2_note 3 none rm_X2_note (pr_X2_note gh) (po_X2_note gh) := by
  obtain ⟨⟨l, x⟩, ti, ⟨c, w⟩, f0⟩ := gh
  refine pz_ofZ (by decide) hOk.1 (Or.inl rfl) ?_ ?_
  · rintro av g ⟨rfl, -⟩
    exact Nat.le_of_ble_eq_true rfl
  · rintro X hX hGX hrm - av g ⟨rfl, hcw, hw, hl, ht⟩ hR
    have loop : ∀ (a c2 : Nat) (f : Nat → Int32) (gk : pz_H), a < 101 → hg (fun b => b = [3] ∨ b = [15]) g gk → lvS gk l ti c2 w f → (c2, lv_in x a f) = lv_nt w x (c, f0) → pz_Z X 3 54 [(2, .inl (nI a)), (0, .inr (.inr (some l))), (1, .inl x)] [] gk 0 0 := by
      intro a
      induction a with
      | zero =>
        intro c2 f gk ha hS hv he
        refine bX2_note_54 hX _ _ _ _ _ ⟨fun _ => ?_, fun q => absurd (by decide) q⟩
        refine bX2_note_90 hX hR _ _ _ _ _ ⟨_, _, _, hv.1, rfl, _, _, _, hv.2, ni_in (by omega) (by omega), Nat.le_refl _, Nat.le_refl _, rfl, hg_up hS hv.2 (Or.inr rfl), ?_⟩
        rw [← he]
        exact ⟨up_ne hv.1 hv.2 (by simp), up_at⟩
      | succ a ih =>
        intro c2 f gk ha hS hv he
        have ep : nI (a + 1) - 1 = nI a := ni_pred (n := a + 1) (by omega)
        have hac : (nI a).toNatClampNeg = a := ni_cl (by omega)
        have hai : vp_in (nI a) 101 := ni_in (by omega) (by omega)
        refine bX2_note_54 hX _ _ _ _ _ ⟨fun q => absurd q (nI_nle (by omega) (by omega)), fun _ => ?_⟩
        refine bX2_note_58 hX _ _ _ _ _ ⟨_, _, _, hv.1, rfl, _, _, _, hv.2, by rw [ep]; exact hai, ?_⟩
        rw [ep, hac]
        have he2 : (c2, if x < f a then lv_in x a (upd f (a + 1) (f a)) else upd f (a + 1) x) = lv_nt w x (c, f0) := he
        refine ⟨fun q => ?_, fun q => ?_⟩
        · rw [if_neg (Int32.not_lt.mpr q)] at he2
          refine bX2_note_90 hX hR _ _ _ _ _ ⟨_, _, _, hv.1, rfl, _, _, _, hv.2, ni_in (by omega) (by omega), Nat.le_refl _, Nat.le_refl _, rfl, hg_up hS hv.2 (Or.inr rfl), ?_⟩
          rw [← he2, ni_cl (by omega)]
          exact ⟨up_ne hv.1 hv.2 (by simp), up_at⟩
        · rw [if_pos (Int32.not_le.mp q)] at he2
          refine bX2_note_70 hX _ _ _ _ _ ⟨_, _, _, hv.1, rfl, _, _, _, hv.1, rfl, _, _, _, hv.2, by rw [ep]; exact hai, _, _, _, hv.2, ni_in (by omega) (by omega), ?_⟩
          rw [ep, hac, ni_cl (j := a + 1) (by omega)]
          refine pz_lsub (lv' := [(2, .inl (nI a)), (0, .inr (.inr (some l))), (1, .inl x)]) ⟨(show some (Sum.inl (nI (a + 1) + (-1)) : pz_V) = some (Sum.inl (nI a)) by rw [pk_m1]), rfl, rfl, trivial⟩ ?_
          exact ih c2 (upd f (a + 1) (f a)) _ (by omega) (hg_up hS hv.2 (Or.inr rfl)) ⟨up_ne hv.1 hv.2 (by simp), up_at⟩ he2
    have at47 : ∀ (c2 : Nat) (gk : pz_H), 0 < c2 → c2 ≤ 101 → hg (fun b => b = [3] ∨ b = [15]) g gk → lvS gk l ti c2 w f0 → (c2, lv_in x (c2 - 1) f0) = lv_nt w x (c, f0) → pz_Z X 3 47 [(0, .inr (.inr (some l))), (1, .inl x)] [] gk 0 0 := by
      intro c2 gk h0 h1 hS hv he
      refine bX2_note_47 hX _ _ _ _ _ ⟨_, _, _, hv.1, rfl, ?_⟩
      refine pz_lsub (lv' := [(2, .inl (nI (c2 - 1))), (0, .inr (.inr (some l))), (1, .inl x)]) ⟨(show some (Sum.inl (nI c2 - 1) : pz_V) = some (Sum.inl (nI (c2 - 1))) by rw [ni_pred h0]), rfl, rfl, trivial⟩ ?_
      exact loop (c2 - 1) c2 f0 gk (by omega) hS hv he
    refine bX2_note_0 hX _ _ _ _ _ ⟨_, _, _, hl, rfl, _, _, _, hl, rfl, fun q => ?_, fun q => ?_⟩
    · have hcw2 : ¬ c < w := by
        have := (ni_le (by omega) (by omega)).mp q
        omega
      refine bX2_note_24 hX _ _ _ _ _ ⟨_, _, _, hl, rfl, fun q2 => ?_, fun q2 => ?_⟩
      · have hc0 : c = 0 := ni_inj (by omega) (by omega) (q2.trans nI_0.symm)
        refine bX2_note_46 hX hR _ _ _ _ _ ⟨Nat.le_refl _, Nat.le_refl _, rfl, hg_rf, ?_⟩
        unfold lv_nt
        dsimp only
        rw [if_neg hcw2, if_pos hc0]
        exact ⟨hl, ht⟩
      · have hc0 : 0 < c := by
          rcases Nat.eq_zero_or_pos c with h | h
          · subst h; exact absurd nI_0 q2
          · exact h
        refine bX2_note_31 hX _ _ _ _ _ ⟨_, _, _, hl, rfl, _, _, _, hl, rfl, _, _, _, ht, by rw [ni_pred hc0]; exact ni_in (by omega) (by omega), ?_⟩
        rw [ni_pred hc0, ni_cl (by omega)]
        refine ⟨fun q3 => ?_, fun q3 => ?_⟩
        · refine at47 c g hc0 (by omega) hg_rf ⟨hl, ht⟩ ?_
          unfold lv_nt
          dsimp only
          rw [if_neg hcw2, if_neg (by omega), if_pos q3]
        · refine bX2_note_46 hX hR _ _ _ _ _ ⟨Nat.le_refl _, Nat.le_refl _, rfl, hg_rf, ?_⟩
          unfold lv_nt
          dsimp only
          rw [if_neg hcw2, if_neg (by omega), if_neg q3]
          exact ⟨hl, ht⟩
    · have hcw2 : c < w := by
        rcases Nat.lt_or_ge c w with h | h
        · exact h
        · exact absurd ((ni_le (by omega) (by omega)).mpr h) q
      refine bX2_note_11 hX _ _ _ _ _ ⟨rfl, _, _, _, hl, rfl, _, _, hl, Nat.le_of_ble_eq_true rfl, ?_⟩
      refine at47 (c + 1) _ (by omega) (by omega) (hg_up hg_rf hl (Or.inl rfl)) ⟨?_, up_ne ht hl (by simp)⟩ ?_
      · rw [up_at, nI_1]
        rfl
      · unfold lv_nt
        dsimp only
        rw [if_pos hcw2]
        rfl
