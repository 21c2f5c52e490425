/-! the reference: keepTimes, earliest, step -/
theorem ml_agI {S : List Nat} {A B : Nat → Nat → Int32} {Aj : Nat → Nat → Int64} {l s : Int32} {d : Int64} (h : agI S A B) (h16 : 16 ∉ S) (h17 : 17 ∉ S) : ∀ k, ml_k B Aj l s d k = ml_k A Aj l s d k
  | 0 => rfl
  | k + 1 => by
    unfold ml_k
    rw [ml_agI h h16 h17 k, h 16 h16, h 17 h17]
theorem mt_agI {S : List Nat} {A B : Nat → Nat → Int32} {Aj : Nat → Nat → Int64} {nz nw l : Nat} {d : Int64} {s : Nat} {lv : Bool} (h : agI S A B) (hS : ∀ k, k ∈ [4, 12, 14, 16, 17] → k ∉ S) : mt_t B Aj nz nw l d s lv = mt_t A Aj nz nw l d s lv := by
  unfold mt_t
  rw [ml_agI h (hS _ (by decide)) (hS _ (by decide)), h 4 (hS _ (by decide)), h 12 (hS _ (by decide)), h 14 (hS _ (by decide))]
theorem mr_agI {S : List Nat} {A B : Nat → Nat → Int32} {Aj : Nat → Nat → Int64} {ne l : Nat} {d : Int64} (h : agI S A B) (hS : ∀ k, k ∈ [2, 8, 10] → k ∉ S) : mr_run B Aj ne l d = mr_run A Aj ne l d := by
  have : mr_p B Aj (nI l) d = mr_p A Aj (nI l) d := by
    funext k
    unfold mr_p
    rw [h 8 (hS _ (by decide))]
  unfold mr_run
  rw [this, h 2 (hS _ (by decide)), h 10 (hS _ (by decide))]
theorem moW_I {I : Nat → Int32} {Ai : Nat → Nat → Int32} {nl ne nz nw : Nat} {cn : Nat → Nat} {k : Nat} {x : Int32} (hk : k ∉ [1, 7, 11, 15]) (h : moW I Ai nl ne nz nw cn) : moW (upd I k x) Ai nl ne nz nw cn := by
  simp only [List.mem_cons, List.not_mem_nil, or_false, not_or] at hk
  obtain ⟨h1, h2, h3, h4, h5⟩ := h
  refine ⟨⟨?_, h1.2⟩, ⟨?_, h2.2⟩, ⟨?_, h3.2⟩, ⟨?_, h4.2⟩, h5⟩
  · rw [pk_un (fun e => hk.1 e.symm)]; exact h1.1
  · rw [pk_un (fun e => hk.2.1 e.symm)]; exact h2.1
  · rw [pk_un (fun e => hk.2.2.1 e.symm)]; exact h3.1
  · rw [pk_un (fun e => hk.2.2.2 e.symm)]; exact h4.1
theorem moW_ag {S : List Nat} {I : Nat → Int32} {A B : Nat → Nat → Int32} {nl ne nz nw : Nat} {cn : Nat → Nat} (h : agI S A B) (hS : ∀ k, k ∈ [3, 4, 10] → k ∉ S) (hw : moW I A nl ne nz nw cn) : moW I B nl ne nz nw cn := by
  obtain ⟨h1, h2, h3, h4, h5⟩ := hw
  refine ⟨h1, ⟨h2.1, h2.2.1, ?_⟩, h3, h4, ?_⟩
  · rw [h 10 (hS _ (by decide))]; exact h2.2.2
  · rw [h 3 (hS _ (by decide)), h 4 (hS _ (by decide))]; exact h5
theorem upd_upd {f : Nat → Int32} {k : Nat} {x y : Int32} : upd (upd f k x) k y = upd f k y := by
  funext j
  by_cases h : j = k
  · subst h; rw [pk_us, pk_us]
  · rw [pk_un h, pk_un h, pk_un h]
set_option maxRecDepth 20000 in
theorem bX10_keepTimes_0 {X : pz_C} (hX : pz_X X cX10_keepTimes 2 RX10) : ∀ lv st g c s, (zo_ic 1 (0) (zo_is 1 1 (pz_Z X 2))) 0 lv st g c s → pz_Z X 2 0 lv st g c s := (zs_iconst hX dX10_keepTimes_0 (by decide) (zs_istore_n hX dX10_keepTimes_1 rfl (by decide) (fun _ _ _ _ _ h => h)))
set_option maxRecDepth 20000 in
theorem bX10_keepTimes_2 {X : pz_C} (hX : pz_X X cX10_keepTimes 2 RX10) : ∀ lv st g c s, (zo_il 1 1 (zo_al 1 0 (zo_get 12 22 (zo_ic_ge 82 (pz_Z X 2))))) 2 lv st g c s → pz_Z X 2 2 lv st g c s := (zs_iload_n hX dX10_keepTimes_2 rfl (zs_aload_n hX dX10_keepTimes_3 rfl (zs_get hX (C := RX10) (T := TX10) (N := 37) rfl in_X10 (by decide) mw_2c09b292 dX10_keepTimes_4 (zs_ic_ge hX dX10_keepTimes_7 (by decide) (fun _ _ _ _ _ _ h => h)))))
set_option maxRecDepth 20000 in
theorem bX10_keepTimes_10 {X : pz_C} (hX : pz_X X cX10_keepTimes 2 RX10) : ∀ lv st g c s, (zo_al 1 0 (zo_get 12 31 (zo_ic 1 (2) (zo_il 1 1 (zo_imul (zo_al 1 0 (zo_al 1 0 (zo_get 12 23 (zo_il 1 1 (zo_iald (zo_al 1 0 (zo_get 12 24 (zo_il 1 1 (zo_lald (zo_al 1 0 (zo_get 12 25 (zo_il 1 1 (zo_iald (zo_ic 1 (1) (pz_Z X 2)))))))))))))))))))) 10 lv st g c s → pz_Z X 2 10 lv st g c s := (zs_aload_n hX dX10_keepTimes_10 rfl (zs_get hX (C := RX10) (T := TX10) (N := 37) rfl in_X10 (by decide) mw_fd6ebad1 dX10_keepTimes_11 (zs_iconst hX dX10_keepTimes_14 (by decide) (zs_iload_n hX dX10_keepTimes_15 rfl (zs_imul hX dX10_keepTimes_16 (zs_aload_n hX dX10_keepTimes_17 rfl (zs_aload_n hX dX10_keepTimes_18 rfl (zs_get hX (C := RX10) (T := TX10) (N := 37) rfl in_X10 (by decide) mw_6928b6ad dX10_keepTimes_19 (zs_iload_n hX dX10_keepTimes_22 rfl (zs_iald hX dX10_keepTimes_23 (zs_aload_n hX dX10_keepTimes_24 rfl (zs_get hX (C := RX10) (T := TX10) (N := 37) rfl in_X10 (by decide) mw_f2a9cd90 dX10_keepTimes_25 (zs_iload_n hX dX10_keepTimes_28 rfl (zs_lald hX dX10_keepTimes_29 (zs_aload_n hX dX10_keepTimes_30 rfl (zs_get hX (C := RX10) (T := TX10) (N := 37) rfl in_X10 (by decide) mw_6e65b301 dX10_keepTimes_31 (zs_iload_n hX dX10_keepTimes_34 rfl (zs_iald hX dX10_keepTimes_35 (zs_iconst hX dX10_keepTimes_36 (by decide) (fun _ _ _ _ _ h => h))))))))))))))))))))
set_option maxRecDepth 20000 in
theorem bX10_keepTimes_37 {X : pz_C} {G : pz_Gx} {rm : Room} (hX : pz_X X cX10_keepTimes 2 RX10) (hrm : pz_rm X = rm) (hGX : pz_GX X G) (hOk : pz_OK G) (gh : gt_X10_timeAt) (hr_X10_timeAt : rm_X10_timeAt.frames + 1 ≤ rm.frames ∧ 8 + (7 + 11) + rm_X10_timeAt.locals ≤ rm.locals) : ∀ lv st g c s, (zo_cV rm 12 4 3 rm_X10_timeAt.cells rm_X10_timeAt.slots (pr_X10_timeAt gh) (po_X10_timeAt gh) (zo_kl (zo_l2i (zo_iast (zo_al 1 0 (zo_get 12 31 (zo_ic 1 (2) (zo_il 1 1 (zo_imul (zo_ic 1 (1) (zo_iadd (zo_al 1 0 (zo_al 1 0 (zo_get 12 23 (zo_il 1 1 (zo_iald (zo_al 1 0 (zo_get 12 24 (zo_il 1 1 (zo_lald (zo_al 1 0 (zo_get 12 26 (zo_il 1 1 (zo_iald (zo_ic 1 (0) (pz_Z X 2)))))))))))))))))))))))))) 37 lv st g c s → pz_Z X 2 37 lv st g c s := by
  subst hrm
  exact (zs_csV hX hGX (C := RX10) (T := TX10) (N := 37) rfl (ct_X10_timeAt hOk gh) mw_711bf8ae mw_615ae78b mw_7ec4fd9a mw_33939a39 mw_b6d174ac (by decide +kernel) hr_X10_timeAt dX10_keepTimes_37 (zs_kl (zs_l2i hX dX10_keepTimes_40 (zs_iast hX dX10_keepTimes_41 (zs_aload_n hX dX10_keepTimes_42 rfl (zs_get hX (C := RX10) (T := TX10) (N := 37) rfl in_X10 (by decide) mw_fd6ebad1 dX10_keepTimes_43 (zs_iconst hX dX10_keepTimes_46 (by decide) (zs_iload_n hX dX10_keepTimes_47 rfl (zs_imul hX dX10_keepTimes_48 (zs_iconst hX dX10_keepTimes_49 (by decide) (zs_iadd hX dX10_keepTimes_50 (zs_aload_n hX dX10_keepTimes_51 rfl (zs_aload_n hX dX10_keepTimes_52 rfl (zs_get hX (C := RX10) (T := TX10) (N := 37) rfl in_X10 (by decide) mw_6928b6ad dX10_keepTimes_53 (zs_iload_n hX dX10_keepTimes_56 rfl (zs_iald hX dX10_keepTimes_57 (zs_aload_n hX dX10_keepTimes_58 rfl (zs_get hX (C := RX10) (T := TX10) (N := 37) rfl in_X10 (by decide) mw_f2a9cd90 dX10_keepTimes_59 (zs_iload_n hX dX10_keepTimes_62 rfl (zs_lald hX dX10_keepTimes_63 (zs_aload_n hX dX10_keepTimes_64 rfl (zs_get hX (C := RX10) (T := TX10) (N := 37) rfl in_X10 (by decide) mw_7f211ead dX10_keepTimes_65 (zs_iload_n hX dX10_keepTimes_68 rfl (zs_iald hX dX10_keepTimes_69 (zs_iconst hX dX10_keepTimes_70 (by decide) (fun _ _ _ _ _ h => h))))))))))))))))))))))))))
set_option maxRecDepth 20000 in
theorem bX10_keepTimes_71 {X : pz_C} {G : pz_Gx} {rm : Room} (hX : pz_X X cX10_keepTimes 2 RX10) (hrm : pz_rm X = rm) (hGX : pz_GX X G) (hOk : pz_OK G) (gh : gt_X10_timeAt) (hr_X10_timeAt : rm_X10_timeAt.frames + 1 ≤ rm.frames ∧ 8 + (7 + 11) + rm_X10_timeAt.locals ≤ rm.locals) : ∀ lv st g c s, (zo_cV rm 12 4 3 rm_X10_timeAt.cells rm_X10_timeAt.slots (pr_X10_timeAt gh) (po_X10_timeAt gh) (zo_kl (zo_l2i (zo_iast (zo_inc 1 (1) (zo_goto 2 (pz_Z X 2))))))) 71 lv st g c s → pz_Z X 2 71 lv st g c s := by
  subst hrm
  exact (zs_csV hX hGX (C := RX10) (T := TX10) (N := 37) rfl (ct_X10_timeAt hOk gh) mw_711bf8ae mw_615ae78b mw_7ec4fd9a mw_33939a39 mw_b6d174ac (by decide +kernel) hr_X10_timeAt dX10_keepTimes_71 (zs_kl (zs_l2i hX dX10_keepTimes_74 (zs_iast hX dX10_keepTimes_75 (zs_iinc hX dX10_keepTimes_76 (by decide) (by decide) (zs_goto hX dX10_keepTimes_79 (by decide) (fun _ _ _ _ _ _ h => h)))))))
set_option maxRecDepth 20000 in
theorem bX10_keepTimes_82 {X : pz_C} {rm : Room} {E : Option pz_V → pz_H → Prop} (hX : pz_X X cX10_keepTimes 2 RX10) (hR : pz_Rt X cX10_keepTimes 2 none rm E) : ∀ lv st g c s, (zo_rv rm E) 82 lv st g c s → pz_Z X 2 82 lv st g c s := (zs_rv hR dX10_keepTimes_82)
def rm_X10_keepTimes : Room := { frames := 2, cells := 0, slots := 0, locals := 54 }
abbrev gt_X10_keepTimes : Type := (Nat × (Nat → Nat) × (Nat → Nat) × (Nat → Nat)) × (Nat × Nat) × mo_T
def pr_X10_keepTimes : gt_X10_keepTimes → List pz_V → pz_H → Prop := fun ((K, gl, go, gf), (nz, nw), (mo, M, I, Ai, Aj)) av g => av = [.inr (.inr (some mo))] ∧ I 22 = nI K ∧ K ≤ 6 ∧ (∀ k, k < K → (Ai 23 k = nI (gl k) ∧ gl k < 40) ∧ (Ai 25 k = nI (go k) ∧ go k < 12) ∧ (Ai 26 k = nI (gf k) ∧ gf k < 12)) ∧ I 11 = nI nz ∧ nz ≤ 100 ∧ I 15 = nI nw ∧ nw ≤ 100 ∧ moS g mo M I Ai Aj
def po_X10_keepTimes : gt_X10_keepTimes → List pz_V → pz_H → Option pz_V → pz_H → Prop := fun ((K, gl, go, gf), (nz, nw), (mo, M, I, Ai, Aj)) _ g v g' => v = none ∧ hg moL g g' ∧ ∃ Ai', moS g' mo M I Ai' Aj ∧ agI [31] Ai Ai' ∧ ∀ k, k < K → Ai' 31 (2 * k) = (mt_t Ai Aj nz nw (gl k) (Aj 24 k) (go k) true).toInt32 ∧ Ai' 31 (2 * k + 1) = (mt_t Ai Aj nz nw (gl k) (Aj 24 k) (gf k) false).toInt32
set_option maxRecDepth 20000 in
set_option maxHeartbeats 4000000 in
theorem ct_X10_keepTimes {G : pz_Gx} (hOk : pz_OK G) (gh : gt_X10_keepTimes) : pz_M G yX10_keepTimes cX10_keepTimes 2 none rm_X10_keepTimes (pr_X10_keepTimes gh) (po_X10_keepTimes gh) := by
  obtain ⟨⟨K, gl, go, gf⟩, ⟨nz, nw⟩, mo, M, I, Ai, Aj⟩ := gh
  refine pz_ofZ (by decide) hOk.1 (Or.inl rfl) ?_ ?_
  · rintro av g ⟨rfl, -⟩
    exact Nat.le_of_ble_eq_true rfl
  · rintro X hX hGX hrm - av g ⟨rfl, hK, hK6, hl, hnz, hnz100, hnw, hnw100, hm⟩ hR
    have loop : ∀ (m k : Nat) (gk : pz_H) (A : Nat → Nat → Int32), k + m = K → hg moL g gk → moS gk mo M I A Aj → agI [31] Ai A → (∀ j, j < k → A 31 (2 * j) = (mt_t Ai Aj nz nw (gl j) (Aj 24 j) (go j) true).toInt32 ∧ A 31 (2 * j + 1) = (mt_t Ai Aj nz nw (gl j) (Aj 24 j) (gf j) false).toInt32) → pz_Z X 2 2 [(1, .inl (nI k)), (0, .inr (.inr (some mo)))] [] gk 0 0 := by
      intro m
      induction m with
      | zero =>
        intro k gk A hk hS hmk hag hf
        obtain rfl : k = K := by omega
        refine bX10_keepTimes_2 hX _ _ _ _ _ ⟨_, _, _, hmk.1, rfl, fun _ => ?_, fun q => absurd (by rw [hK]; exact Int32.le_refl _) q⟩
        exact bX10_keepTimes_82 hX hR _ _ _ _ _ ⟨Nat.le_refl _, Nat.le_refl _, rfl, hS, A, hmk, hag, hf⟩
      | succ m ih =>
        intro k gk A hk hS hmk hag hf
        obtain ⟨⟨e23, l23⟩, ⟨e25, l25⟩, ⟨e26, l26⟩⟩ := hl k (by omega)
        have hkc : (nI k).toNatClampNeg = k := ni_cl (by omega)
        have hki : vp_in (nI k) 6 := ni_in (by omega) (by omega)
        have h23 : gk (M 23) = some ([101, 23], ar_i 6 (Ai 23)) := by rw [← hag 23 (by decide)]; exact hmk.2.1 23 (by decide)
        have h25 : gk (M 25) = some ([101, 25], ar_i 6 (Ai 25)) := by rw [← hag 25 (by decide)]; exact hmk.2.1 25 (by decide)
        have h24 : gk (M 24) = some ([101, 24], ar_j 6 (Aj 24)) := hmk.2.2.2 24 (by decide)
        have h31 : gk (M 31) = some ([101, 31], ar_i 12 (A 31)) := hmk.2.1 31 (by decide)
        have e2k : (2 : Int32) * nI k = nI (2 * k) := pk_mul 2 k
        refine bX10_keepTimes_2 hX _ _ _ _ _ ⟨_, _, _, hmk.1, rfl, fun q => absurd ((ni_le (by omega) (by omega)).mp (hK ▸ q)) (by omega), fun _ => ?_⟩
        refine bX10_keepTimes_10 hX _ _ _ _ _ ⟨_, _, _, hmk.1, rfl, _, _, _, hmk.1, rfl, _, _, _, h23, hki, _, _, _, hmk.1, rfl, _, _, _, h24, hki, _, _, _, hmk.1, rfl, _, _, _, h25, hki, ?_⟩
        rw [hkc, e23, e25, e2k]
        refine bX10_keepTimes_37 hX hrm hGX hOk ((gl k, Aj 24 k, go k, true), (nz, nw), (mo, M, I, A, Aj)) (by decide) _ _ _ _ _ ⟨Nat.le_of_ble_eq_true rfl, ⟨mo, [.inl (nI (gl k)), .inr (.inl (Aj 24 k)), .inl (nI (go k)), .inl 1], [100], _, rfl, hmk.1⟩, Nat.le_of_ble_eq_true rfl, Nat.le_of_ble_eq_true rfl, Nat.le_of_ble_eq_true rfl, ⟨rfl, l23, l25, hnz, hnz100, hnw, hnw100, hmk⟩, ?_⟩
        rintro v g2 ⟨rfl, rfl⟩ y hy
        cases hy
        rw [mt_agI hag (by decide)]
        refine ⟨_, _, _, h31, ni_in (by omega) (by omega), ?_⟩
        rw [ni_cl (j := 2 * k) (by omega)]
        obtain ⟨hm2, hS2⟩ := mo_i hmk 31 (by decide) (upd (A 31) (2 * k) (mt_t Ai Aj nz nw (gl k) (Aj 24 k) (go k) true).toInt32)
        have hag2 : agI [31] Ai (seqU A 31 (upd (A 31) (2 * k) (mt_t Ai Aj nz nw (gl k) (Aj 24 k) (go k) true).toInt32)) := agI_sq hag (by decide)
        refine ⟨_, _, _, hm2.1, rfl, _, _, _, hm2.1, rfl, _, _, _, hm2.2.1 23 (by decide), hki, _, _, _, hm2.1, rfl, _, _, _, hm2.2.2.2 24 (by decide), hki, _, _, _, hm2.1, rfl, _, _, _, hm2.2.1 26 (by decide), hki, ?_⟩
        rw [hkc, hag2 23 (by decide), hag2 26 (by decide), e23, e26, e2k, show nI (2 * k) + 1 = nI (2 * k + 1) from nI_1 _]
        refine bX10_keepTimes_71 hX hrm hGX hOk ((gl k, Aj 24 k, gf k, false), (nz, nw), (mo, M, I, _, Aj)) (by decide) _ _ _ _ _ ⟨Nat.le_of_ble_eq_true rfl, ⟨mo, [.inl (nI (gl k)), .inr (.inl (Aj 24 k)), .inl (nI (gf k)), .inl 0], [100], _, rfl, hm2.1⟩, Nat.le_of_ble_eq_true rfl, Nat.le_of_ble_eq_true rfl, Nat.le_of_ble_eq_true rfl, ⟨rfl, l23, l26, hnz, hnz100, hnw, hnw100, hm2⟩, ?_⟩
        rintro v g3 ⟨rfl, rfl⟩ y hy
        cases hy
        rw [mt_agI hag2 (by decide)]
        have h31b := hm2.2.1 31 (by decide)
        rw [seqU_at] at h31b
        refine ⟨_, _, _, h31b, ni_in (by show 2 * k + 1 < 12; omega) (by decide), ?_⟩
        rw [ni_cl (j := 2 * k + 1) (by omega)]
        obtain ⟨hm3, hS3⟩ := mo_i hm2 31 (by decide) (upd (upd (A 31) (2 * k) (mt_t Ai Aj nz nw (gl k) (Aj 24 k) (go k) true).toInt32) (2 * k + 1) (mt_t Ai Aj nz nw (gl k) (Aj 24 k) (gf k) false).toInt32)
        refine pz_lsub (lv' := [(1, .inl (nI (k + 1))), (0, .inr (.inr (some mo)))]) ⟨ni_inc, rfl, trivial⟩ ?_
        refine ih (k + 1) _ _ (by omega) (hg_tr hS (hg_tr hS2 hS3)) hm3 (agI_sq hag2 (by decide)) (fun j hj => ?_)
        rw [seqU_at]
        by_cases e : j = k
        · subst e
          exact ⟨by rw [pk_un (by omega), pk_us], by rw [pk_us]⟩
        · rw [pk_un (by omega), pk_un (by omega), pk_un (by omega), pk_un (by omega)]
          exact hf j (by omega)
    refine bX10_keepTimes_0 hX _ _ _ _ _ ?_
    refine pz_lsub (lv' := [(1, .inl (nI 0)), (0, .inr (.inr (some mo)))]) ⟨rfl, rfl, trivial⟩ ?_
    exact loop K 0 g Ai (by omega) hg_rf hm agI_rf (fun j hj => absurd hj (Nat.not_lt_zero j))
set_option maxRecDepth 20000 in
theorem bX10_step_0 {X : pz_C} (hX : pz_X X cX10_step 3 RX10) : ∀ lv st g c s, (zo_al 1 0 (zo_il 1 2 (zo_i2l (zo_lc 1 (0) (zo_lc 3 (5) (pz_Z X 3)))))) 0 lv st g c s → pz_Z X 3 0 lv st g c s := (zs_aload_n hX dX10_step_0 rfl (zs_iload_n hX dX10_step_1 rfl (zs_i2l hX dX10_step_2 (zs_lconst hX dX10_step_3 (by decide) (zs_ldc2 hX dX10_step_4 mw_7d6f65f7 (fun _ _ _ _ _ h => h))))))
set_option maxRecDepth 20000 in
theorem bX10_step_7 {X : pz_C} {G : pz_Gx} {rm : Room} (hX : pz_X X cX10_step 3 RX10) (hrm : pz_rm X = rm) (hGX : pz_GX X G) (hOk : pz_OK G) (gh : gt_X10_within) (hr_X10_within : rm_X10_within.frames + 1 ≤ rm.frames ∧ 8 + (6 + 11) + rm_X10_within.locals ≤ rm.locals) : ∀ lv st g c s, (zo_cs rm 3 3 rm_X10_within.cells rm_X10_within.slots (pr_X10_within gh) (po_X10_within gh) (zo_kz (zo_if_ne 17 (pz_Z X 3)))) 7 lv st g c s → pz_Z X 3 7 lv st g c s := by
  subst hrm
  exact (zs_csS hX hGX (ct_X10_within hOk gh) mw_b2fd6b25 mw_bf52c9cc mw_33939a39 mw_fee1cb2c (by decide +kernel) hr_X10_within dX10_step_7 (zs_kz (zs_if_ne hX dX10_step_10 (by decide) (fun _ _ _ _ _ _ h => h))))
set_option maxRecDepth 20000 in
theorem bX10_step_13 {X : pz_C} (hX : pz_X X cX10_step 3 RX10) : ∀ lv st g c s, (zo_ic 1 (1) (zo_goto 18 (pz_Z X 3))) 13 lv st g c s → pz_Z X 3 13 lv st g c s := (zs_iconst hX dX10_step_13 (by decide) (zs_goto hX dX10_step_14 (by decide) (fun _ _ _ _ _ _ h => h)))
set_option maxRecDepth 20000 in
theorem bX10_step_17 {X : pz_C} (hX : pz_X X cX10_step 3 RX10) : ∀ lv st g c s, (zo_ic 1 (0) (pz_Z X 3)) 17 lv st g c s → pz_Z X 3 17 lv st g c s := (zs_iconst hX dX10_step_17 (by decide) (fun _ _ _ _ _ h => h))
set_option maxRecDepth 20000 in
theorem bX10_step_18 {X : pz_C} (hX : pz_X X cX10_step 3 RX10) : ∀ lv st g c s, (zo_ic 1 (0) (zo_ic 1 (0) (pz_Z X 3))) 18 lv st g c s → pz_Z X 3 18 lv st g c s := (zs_iconst hX dX10_step_18 (by decide) (zs_iconst hX dX10_step_19 (by decide) (fun _ _ _ _ _ h => h)))
set_option maxRecDepth 20000 in
theorem bX10_step_20 {X : pz_C} {G : pz_Gx} {rm : Room} (hX : pz_X X cX10_step 3 RX10) (hrm : pz_rm X = rm) (hGX : pz_GX X G) (hOk : pz_OK G) (gh : gt_X10_refused) (hr_X10_refused : rm_X10_refused.frames + 1 ≤ rm.frames ∧ 8 + (4 + 11) + rm_X10_refused.locals ≤ rm.locals) : ∀ lv st g c s, (zo_cV rm 12 3 3 rm_X10_refused.cells rm_X10_refused.slots (pr_X10_refused gh) (po_X10_refused gh) (zo_kz (zo_if_eq 28 (pz_Z X 3)))) 20 lv st g c s → pz_Z X 3 20 lv st g c s := by
  subst hrm
  exact (zs_csV hX hGX (C := RX10) (T := TX10) (N := 37) rfl (ct_X10_refused hOk gh) mw_53c1f8a2 mw_ba17b74c mw_7c91c019 mw_33939a39 mw_471b458e (by decide +kernel) hr_X10_refused dX10_step_20 (zs_kz (zs_if_eq hX dX10_step_23 (by decide) (fun _ _ _ _ _ _ h => h))))
set_option maxRecDepth 20000 in
theorem bX10_step_26 {X : pz_C} {rm : Room} {E : Option pz_V → pz_H → Prop} (hX : pz_X X cX10_step 3 RX10) (hR : pz_Rt X cX10_step 3 (some .int) rm E) : ∀ lv st g c s, (zo_ic 1 (0) (zo_ri rm E)) 26 lv st g c s → pz_Z X 3 26 lv st g c s := (zs_iconst hX dX10_step_26 (by decide) (zs_ri hR dX10_step_27))
set_option maxRecDepth 20000 in
theorem bX10_step_28 {X : pz_C} (hX : pz_X X cX10_step 3 RX10) : ∀ lv st g c s, (zo_il 1 1 (zo_i2l (zo_lc 1 (0) (zo_al 1 0 (zo_get 12 22 (zo_ic 1 (1) (zo_isub (zo_i2l (pz_Z X 3))))))))) 28 lv st g c s → pz_Z X 3 28 lv st g c s := (zs_iload_n hX dX10_step_28 rfl (zs_i2l hX dX10_step_29 (zs_lconst hX dX10_step_30 (by decide) (zs_aload_n hX dX10_step_31 rfl (zs_get hX (C := RX10) (T := TX10) (N := 37) rfl in_X10 (by decide) mw_2c09b292 dX10_step_32 (zs_iconst hX dX10_step_35 (by decide) (zs_isub hX dX10_step_36 (zs_i2l hX dX10_step_37 (fun _ _ _ _ _ h => h)))))))))
set_option maxRecDepth 20000 in
theorem bX10_step_38 {X : pz_C} {G : pz_Gx} {rm : Room} (hX : pz_X X cX10_step 3 RX10) (hrm : pz_rm X = rm) (hGX : pz_GX X G) (hOk : pz_OK G) (gh : gt_X10_within) (hr_X10_within : rm_X10_within.frames + 1 ≤ rm.frames ∧ 8 + (6 + 11) + rm_X10_within.locals ≤ rm.locals) : ∀ lv st g c s, (zo_cs rm 3 3 rm_X10_within.cells rm_X10_within.slots (pr_X10_within gh) (po_X10_within gh) (zo_kz (zo_if_ne 46 (pz_Z X 3)))) 38 lv st g c s → pz_Z X 3 38 lv st g c s := by
  subst hrm
  exact (zs_csS hX hGX (ct_X10_within hOk gh) mw_b2fd6b25 mw_bf52c9cc mw_33939a39 mw_fee1cb2c (by decide +kernel) hr_X10_within dX10_step_38 (zs_kz (zs_if_ne hX dX10_step_41 (by decide) (fun _ _ _ _ _ _ h => h))))
set_option maxRecDepth 20000 in
theorem bX10_step_44 {X : pz_C} {rm : Room} {E : Option pz_V → pz_H → Prop} (hX : pz_X X cX10_step 3 RX10) (hR : pz_Rt X cX10_step 3 (some .int) rm E) : ∀ lv st g c s, (zo_ic 1 (-1) (zo_ri rm E)) 44 lv st g c s → pz_Z X 3 44 lv st g c s := (zs_iconst hX dX10_step_44 (by decide) (zs_ri hR dX10_step_45))
set_option maxRecDepth 20000 in
theorem bX10_step_46 {X : pz_C} (hX : pz_X X cX10_step 3 RX10) : ∀ lv st g c s, (zo_il 1 2 (zo_ic 1 (4) (zo_ic_ge 100 (pz_Z X 3)))) 46 lv st g c s → pz_Z X 3 46 lv st g c s := (zs_iload_n hX dX10_step_46 rfl (zs_iconst hX dX10_step_47 (by decide) (zs_ic_ge hX dX10_step_48 (by decide) (fun _ _ _ _ _ _ h => h))))
set_option maxRecDepth 20000 in
theorem bX10_step_51 {X : pz_C} (hX : pz_X X cX10_step 3 RX10) : ∀ lv st g c s, (zo_il 1 2 (zo_if_ne 64 (pz_Z X 3))) 51 lv st g c s → pz_Z X 3 51 lv st g c s := (zs_iload_n hX dX10_step_51 rfl (zs_if_ne hX dX10_step_52 (by decide) (fun _ _ _ _ _ _ h => h)))
set_option maxRecDepth 20000 in
theorem bX10_step_55 {X : pz_C} (hX : pz_X X cX10_step 3 RX10) : ∀ lv st g c s, (zo_al 1 0 (zo_get 12 23 (zo_il 1 1 (zo_iald (zo_goto 99 (pz_Z X 3)))))) 55 lv st g c s → pz_Z X 3 55 lv st g c s := (zs_aload_n hX dX10_step_55 rfl (zs_get hX (C := RX10) (T := TX10) (N := 37) rfl in_X10 (by decide) mw_6928b6ad dX10_step_56 (zs_iload_n hX dX10_step_59 rfl (zs_iald hX dX10_step_60 (zs_goto hX dX10_step_61 (by decide) (fun _ _ _ _ _ _ h => h))))))
set_option maxRecDepth 20000 in
theorem bX10_step_64 {X : pz_C} (hX : pz_X X cX10_step 3 RX10) : ∀ lv st g c s, (zo_il 1 2 (zo_ic 1 (1) (zo_ic_ne 79 (pz_Z X 3)))) 64 lv st g c s → pz_Z X 3 64 lv st g c s := (zs_iload_n hX dX10_step_64 rfl (zs_iconst hX dX10_step_65 (by decide) (zs_ic_ne hX dX10_step_66 (by decide) (fun _ _ _ _ _ _ h => h))))
set_option maxRecDepth 20000 in
theorem bX10_step_69 {X : pz_C} (hX : pz_X X cX10_step 3 RX10) : ∀ lv st g c s, (zo_al 1 0 (zo_get 12 24 (zo_il 1 1 (zo_lald (zo_l2i (zo_goto 99 (pz_Z X 3))))))) 69 lv st g c s → pz_Z X 3 69 lv st g c s := (zs_aload_n hX dX10_step_69 rfl (zs_get hX (C := RX10) (T := TX10) (N := 37) rfl in_X10 (by decide) mw_f2a9cd90 dX10_step_70 (zs_iload_n hX dX10_step_73 rfl (zs_lald hX dX10_step_74 (zs_l2i hX dX10_step_75 (zs_goto hX dX10_step_76 (by decide) (fun _ _ _ _ _ _ h => h)))))))
set_option maxRecDepth 20000 in
theorem bX10_step_79 {X : pz_C} (hX : pz_X X cX10_step 3 RX10) : ∀ lv st g c s, (zo_il 1 2 (zo_ic 1 (2) (zo_ic_ne 93 (pz_Z X 3)))) 79 lv st g c s → pz_Z X 3 79 lv st g c s := (zs_iload_n hX dX10_step_79 rfl (zs_iconst hX dX10_step_80 (by decide) (zs_ic_ne hX dX10_step_81 (by decide) (fun _ _ _ _ _ _ h => h))))
set_option maxRecDepth 20000 in
theorem bX10_step_84 {X : pz_C} (hX : pz_X X cX10_step 3 RX10) : ∀ lv st g c s, (zo_al 1 0 (zo_get 12 25 (zo_il 1 1 (zo_iald (zo_goto 99 (pz_Z X 3)))))) 84 lv st g c s → pz_Z X 3 84 lv st g c s := (zs_aload_n hX dX10_step_84 rfl (zs_get hX (C := RX10) (T := TX10) (N := 37) rfl in_X10 (by decide) mw_6e65b301 dX10_step_85 (zs_iload_n hX dX10_step_88 rfl (zs_iald hX dX10_step_89 (zs_goto hX dX10_step_90 (by decide) (fun _ _ _ _ _ _ h => h))))))
set_option maxRecDepth 20000 in
theorem bX10_step_93 {X : pz_C} (hX : pz_X X cX10_step 3 RX10) : ∀ lv st g c s, (zo_al 1 0 (zo_get 12 26 (zo_il 1 1 (zo_iald (pz_Z X 3))))) 93 lv st g c s → pz_Z X 3 93 lv st g c s := (zs_aload_n hX dX10_step_93 rfl (zs_get hX (C := RX10) (T := TX10) (N := 37) rfl in_X10 (by decide) mw_7f211ead dX10_step_94 (zs_iload_n hX dX10_step_97 rfl (zs_iald hX dX10_step_98 (fun _ _ _ _ _ h => h)))))
set_option maxRecDepth 20000 in
theorem bX10_step_99 {X : pz_C} {rm : Room} {E : Option pz_V → pz_H → Prop} (hX : pz_X X cX10_step 3 RX10) (hR : pz_Rt X cX10_step 3 (some .int) rm E) : ∀ lv st g c s, (zo_ri rm E) 99 lv st g c s → pz_Z X 3 99 lv st g c s := (zs_ri hR dX10_step_99)
set_option maxRecDepth 20000 in
theorem bX10_step_100 {X : pz_C} {rm : Room} {E : Option pz_V → pz_H → Prop} (hX : pz_X X cX10_step 3 RX10) (hR : pz_Rt X cX10_step 3 (some .int) rm E) : ∀ lv st g c s, (zo_al 1 0 (zo_get 12 31 (zo_ic 1 (2) (zo_il 1 1 (zo_imul (zo_il 1 2 (zo_iadd (zo_ic 1 (4) (zo_isub (zo_iald (zo_ri rm E))))))))))) 100 lv st g c s → pz_Z X 3 100 lv st g c s := (zs_aload_n hX dX10_step_100 rfl (zs_get hX (C := RX10) (T := TX10) (N := 37) rfl in_X10 (by decide) mw_fd6ebad1 dX10_step_101 (zs_iconst hX dX10_step_104 (by decide) (zs_iload_n hX dX10_step_105 rfl (zs_imul hX dX10_step_106 (zs_iload_n hX dX10_step_107 rfl (zs_iadd hX dX10_step_108 (zs_iconst hX dX10_step_109 (by decide) (zs_isub hX dX10_step_110 (zs_iald hX dX10_step_111 (zs_ri hR dX10_step_112)))))))))))
/-- what step answers for leg i -/
def ms_v (Ai : Nat → Nat → Int32) (Aj : Nat → Nat → Int64) (i w : Nat) : Int32 := if w = 0 then Ai 23 i else if w = 1 then (Aj 24 i).toInt32 else if w = 2 then Ai 25 i else if w = 3 then Ai 26 i else Ai 31 (2 * i + w - 4)
def rm_X10_step : Room := { frames := 1, cells := 0, slots := 0, locals := 25 }
abbrev gt_X10_step : Type := (Int32 × Int32 × Nat) × mo_T
def pr_X10_step : gt_X10_step → List pz_V → pz_H → Prop := fun ((i, w, K), (mo, M, I, Ai, Aj)) av g => av = [.inr (.inr (some mo)), .inl i, .inl w] ∧ I 22 = nI K ∧ K ≤ 6 ∧ moS g mo M I Ai Aj
def po_X10_step : gt_X10_step → List pz_V → pz_H → Option pz_V → pz_H → Prop := fun ((i, w, K), (mo, M, I, Ai, Aj)) _ g v g' => hg moL g g' ∧ ((wi w.toInt64 0 5 = false ∧ v = some (.inl 0) ∧ moS g' mo M (upd I 0 1) Ai Aj) ∨ (wi w.toInt64 0 5 = true ∧ moS g' mo M (upd I 0 0) Ai Aj ∧ ((wi i.toInt64 0 (nI K - 1).toInt64 = false ∧ v = some (.inl (-1))) ∨ ∃ k x, k < K ∧ x ≤ 5 ∧ i = nI k ∧ w = nI x ∧ v = some (.inl (ms_v Ai Aj k x)))))
theorem wi_nK {p : Int32} {k : Nat} (hk : k ≤ 1000000) (h : wi p.toInt64 0 (nI k - 1).toInt64 = true) : ∃ q, q < k ∧ p = nI q := by
  cases k with
  | zero =>
    exfalso
    unfold wi at h
    rw [Bool.and_eq_true] at h
    have h0 := of_decide_eq_true h.1
    have h1 := of_decide_eq_true h.2
    have h2 := Int64.le_trans h0 h1
    exact absurd h2 (by decide)
  | succ k =>
    rw [ni_pred (n := k + 1) (by omega), show k + 1 - 1 = k from rfl, nI_l (by omega)] at h
    obtain ⟨q, hq, e⟩ := wi_nI (by omega) h
    exact ⟨q, by omega, e⟩
set_option maxRecDepth 20000 in
set_option maxHeartbeats 4000000 in
theorem ct_X10_step {G : pz_Gx} (hOk : pz_OK G) (gh : gt_X10_step) : pz_M G yX10_step cX10_step 3 (some .int) rm_X10_step (pr_X10_step gh) (po_X10_step gh) := by
  obtain ⟨⟨i, w, K⟩, mo, M, I, Ai, Aj⟩ := gh
  refine pz_ofZ (by decide) hOk.1 (Or.inr (Or.inl rfl)) ?_ ?_
  · rintro av g ⟨rfl, -⟩
    exact Nat.le_of_ble_eq_true rfl
  · rintro X hX hGX hrm - av g ⟨rfl, hK, hK6, hm⟩ hR
    have h1 := hm.1
    have at18 : ∀ (a : Bool), a = !wi w.toInt64 0 5 → pz_Z X 3 18 [(0, .inr (.inr (some mo))), (1, .inl i), (2, .inl w)] [.inl (b01 a), .inr (.inr (some mo))] g 0 0 := by
      intro a ha
      refine bX10_step_18 hX _ _ _ _ _ ?_
      refine bX10_step_20 hX hrm hGX hOk ((mo, a, false, false), M, I) (by decide) _ _ _ _ _ ⟨Nat.le_of_ble_eq_true rfl, ⟨mo, [.inl (b01 a), .inl 0, .inl 0], [100], _, rfl, h1⟩, Nat.le_of_ble_eq_true rfl, Nat.le_of_ble_eq_true rfl, Nat.le_of_ble_eq_true rfl, ⟨rfl, h1⟩, ?_⟩
      rintro v g2 ⟨rfl, rfl⟩ y hy -
      cases hy
      rw [Bool.or_false, Bool.or_false]
      obtain ⟨hm2, hS2⟩ := mo_f hm 0 (by decide) (rf3 a false false)
      refine ⟨fun q => ?_, fun q => ?_⟩
      · rw [b01_z] at q
        subst q
        have hw5 : wi w.toInt64 0 5 = true := by
          cases hc : wi w.toInt64 0 5 with
          | true => rfl
          | false => rw [hc] at ha; cases ha
        rw [show rf3 false false false = 0 from rfl] at hm2 hS2 ⊢
        have e0 : (mo_fs I M).set 0 (.inl 0) = mo_fs (upd I 0 0) M := mo_set 0 (by decide) 0
        rw [e0] at hm2 hS2 ⊢
        have hI22 : upd I 0 0 22 = nI K := by rw [pk_un (by decide), hK]
        refine bX10_step_28 hX _ _ _ _ _ ⟨_, _, _, hm2.1, rfl, ?_⟩
        rw [hI22]
        refine bX10_step_38 hX hrm hGX hOk (i.toInt64, 0, (nI K - 1).toInt64) (by decide) _ _ _ _ _ ⟨Nat.le_of_ble_eq_true rfl, Nat.le_of_ble_eq_true rfl, Nat.le_of_ble_eq_true rfl, Nat.le_of_ble_eq_true rfl, rfl, ?_⟩
        rintro v g3 ⟨rfl, rfl⟩ y hy -
        cases hy
        refine ⟨fun q => ?_, fun q => ?_⟩
        · rw [b01_nz] at q
          obtain ⟨k, hk, rfl⟩ := wi_nK (by omega) q
          obtain ⟨x, hx, rfl⟩ : ∃ q, q ≤ 5 ∧ w = nI q := wi_nI (by omega) hw5
          have hkc : (nI k).toNatClampNeg = k := ni_cl (by omega)
          have hki : vp_in (nI k) 6 := ni_in (by omega) (by omega)
          have fin : ∀ z : Int32, z = ms_v Ai Aj k x → ∀ lv : pz_L, pz_Z X 3 99 lv [.inl z] (va_up g mo (some ([100], .inr (12, mo_fs (upd I 0 0) M)))) 0 0 := fun z hz lv => bX10_step_99 hX hR _ _ _ _ _ ⟨Nat.le_refl _, Nat.le_refl _, hS2, Or.inr ⟨hw5, hm2, Or.inr ⟨k, x, hk, hx, rfl, rfl, by rw [hz]⟩⟩⟩
          refine bX10_step_46 hX _ _ _ _ _ ⟨fun q4 => ?_, fun q4 => ?_⟩
          · have hx4 : 4 ≤ x := (ni_le (a := 4) (by omega) (by omega)).mp q4
            have eix : (2 : Int32) * nI k + nI x - 4 = nI (2 * k + x - 4) := by
              rw [show (2 : Int32) * nI k = nI (2 * k) from pk_mul 2 k, nI_add, show (4 : Int32) = nI 4 from rfl, pk_sub (by omega)]
            refine bX10_step_100 hX hR _ _ _ _ _ ⟨_, _, _, hm2.1, rfl, _, _, _, hm2.2.1 31 (by decide), by rw [eix]; exact ni_in (by show 2 * k + x - 4 < 12; omega) (by decide), ?_⟩
            rw [eix, ni_cl (by omega)]
            refine ⟨Nat.le_refl _, Nat.le_refl _, hS2, Or.inr ⟨hw5, hm2, Or.inr ⟨k, x, hk, hx, rfl, rfl, ?_⟩⟩⟩
            unfold ms_v
            rw [if_neg (by omega), if_neg (by omega), if_neg (by omega), if_neg (by omega)]
          · have hx4 : x < 4 := by
              refine Nat.lt_of_not_le (fun z => q4 ((ni_le (a := 4) (by omega) (by omega)).mpr z))
            refine bX10_step_51 hX _ _ _ _ _ ⟨fun q0 => ?_, fun q0 => ?_⟩
            · have hx0 : x ≠ 0 := fun e => q0 (by rw [e]; rfl)
              refine bX10_step_64 hX _ _ _ _ _ ⟨fun q1 => ?_, fun q1 => ?_⟩
              · have hx1 : x ≠ 1 := fun e => q1 (by rw [e]; rfl)
                refine bX10_step_79 hX _ _ _ _ _ ⟨fun q2 => ?_, fun q2 => ?_⟩
                · have hx2 : x ≠ 2 := fun e => q2 (by rw [e]; rfl)
                  refine bX10_step_93 hX _ _ _ _ _ ⟨_, _, _, hm2.1, rfl, _, _, _, hm2.2.1 26 (by decide), hki, ?_⟩
                  rw [hkc]
                  exact fin _ (by unfold ms_v; rw [if_neg hx0, if_neg hx1, if_neg hx2, if_pos (by omega)]) _
                · have hx2 : x = 2 := ni_inj (by omega) (by omega) q2
                  refine bX10_step_84 hX _ _ _ _ _ ⟨_, _, _, hm2.1, rfl, _, _, _, hm2.2.1 25 (by decide), hki, ?_⟩
                  rw [hkc]
                  exact fin _ (by unfold ms_v; rw [if_neg hx0, if_neg hx1, if_pos hx2]) _
              · have hx1 : x = 1 := ni_inj (by omega) (by omega) q1
                refine bX10_step_69 hX _ _ _ _ _ ⟨_, _, _, hm2.1, rfl, _, _, _, hm2.2.2.2 24 (by decide), hki, ?_⟩
                rw [hkc]
                exact fin _ (by unfold ms_v; rw [if_neg hx0, if_pos hx1]) _
            · have hx0 : x = 0 := ni_inj (by omega) (by omega) q0
              refine bX10_step_55 hX _ _ _ _ _ ⟨_, _, _, hm2.1, rfl, _, _, _, hm2.2.1 23 (by decide), hki, ?_⟩
              rw [hkc]
              exact fin _ (by unfold ms_v; rw [if_pos hx0]) _
        · rw [b01_z] at q
          exact bX10_step_44 hX hR _ _ _ _ _ ⟨Nat.le_refl _, Nat.le_refl _, hS2, Or.inr ⟨hw5, hm2, Or.inl ⟨q, rfl⟩⟩⟩
      · rw [b01_nz] at q
        subst q
        have hw5 : wi w.toInt64 0 5 = false := by
          cases hc : wi w.toInt64 0 5 with
          | false => rfl
          | true => rw [hc] at ha; cases ha
        exact bX10_step_26 hX hR _ _ _ _ _ ⟨Nat.le_refl _, Nat.le_refl _, hS2, Or.inl ⟨hw5, rfl, hm2⟩⟩
    refine bX10_step_0 hX _ _ _ _ _ ?_
    refine bX10_step_7 hX hrm hGX hOk (w.toInt64, 0, 5) (by decide) _ _ _ _ _ ⟨Nat.le_of_ble_eq_true rfl, Nat.le_of_ble_eq_true rfl, Nat.le_of_ble_eq_true rfl, Nat.le_of_ble_eq_true rfl, rfl, ?_⟩
    rintro v g2 ⟨rfl, rfl⟩ y hy -
    cases hy
    refine ⟨fun q => ?_, fun q => ?_⟩
    · rw [b01_nz] at q
      refine bX10_step_17 hX _ _ _ _ _ ?_
      exact at18 false (by rw [q]; rfl)
    · rw [b01_z] at q
      refine bX10_step_13 hX _ _ _ _ _ ?_
      exact at18 true (by rw [q]; rfl)
