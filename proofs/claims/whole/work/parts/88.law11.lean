/-! one call of the script: next, earliest -/
theorem lwC_ag {ne nz nw nl K K' len : Nat} {L : Nat → lr_T} {Z : Nat → List (Int32 × Int32)} {N C : Nat → Int32} {pf pf' : Nat → Nat → Int32} {cf I I' : Nat → Int32} {Ai Ai' : Nat → Nat → Int32} {Aj Aj' : Nat → Nat → Int64} {cn : Nat → Nat} (hA : ∀ k, k ∈ [2, 3, 4, 8, 10, 12, 14, 16, 17, 20, 28] → Ai' k = Ai k) (hJ : ∀ k, k ∈ [5, 6, 9, 13, 18, 19] → Aj' k = Aj k) (hI : ∀ k, k ∈ [1, 7, 11, 15, 27] → I' k = I k) (hw : I' 22 = nI K' ∧ K' ≤ 6 ∧ cpW Ai' Aj' K' pf') (h : lwC ne nz nw nl L Z N C K pf len cf I Ai Aj cn) : lwC ne nz nw nl L Z N C K' pf' len cf I' Ai' Aj' cn := by
  obtain ⟨⟨w1, w2, w3, w4, w5⟩, ⟨d1, d2, d3⟩, h3, -, h5, h6, h7⟩ := h
  refine ⟨⟨?_, ?_, ?_, ?_, fun l hl => ?_⟩, ⟨fun l hl => ?_, fun p hp => ?_, fun p hp => ?_⟩, ?_, hw, ?_, ?_, h7⟩
  · rw [hI 1 (by decide)]; exact w1
  · rw [hI 7 (by decide), hA 10 (by decide)]; exact w2
  · rw [hI 11 (by decide)]; exact w3
  · rw [hI 15 (by decide)]; exact w4
  · rw [hA 3 (by decide), hA 4 (by decide)]; exact w5 l hl
  · exact cpL_ag (w5 l hl).2.1 (by rw [hA 2 (by decide)]) (fun j _ => by rw [hA 4 (by decide)]) (fun j _ => by rw [hJ 5 (by decide)]) (fun j _ => by rw [hJ 6 (by decide)]) (hA 8 (by decide)) (hJ 9 (by decide)) (hA 10 (by decide)) (hA 16 (by decide)) (hA 17 (by decide)) (hJ 18 (by decide)) (hJ 19 (by decide)) (d1 l hl)
  · exact cpZ_ag (hA 12 (by decide)) (hA 14 (by decide)) (hJ 13 (by decide)) (d2 p hp)
  · rw [hA 20 (by decide)]; exact d3 p hp
  · exact cpU_ag (Nat.le_refl _) (hA 8 (by decide)) (hA 16 (by decide)) (hA 12 (by decide)) (hJ 13 (by decide)) h3
  · rw [hI 27 (by decide), hA 28 (by decide)]; exact h5
  · rw [hA 12 (by decide)]; exact h6
theorem me_bad_t {a b : Int32} : me_bad a b = true ↔ jnI a b := by
  unfold me_bad jnI
  rw [Bool.or_eq_true, wi_bd99, wi_bd99]
theorem mn_b_t {t : Int64} {i : Int32} : mn_b t i = true ↔ nxE t i := by
  unfold mn_b nxE
  rw [Bool.or_eq_true, wi_bdR, wi_bdR]
theorem b_no {b : Bool} {P : Prop} (h : b = true ↔ P) (hP : ¬ P) : b = false := by
  cases b
  · rfl
  · exact absurd (h.mp rfl) hP
theorem lN_in {a b : Nat} (ha : a ≤ 1700000000) (hb : b ≤ 1700000000) (h : lN a = lN b) : a = b := by
  have := congrArg Int64.toInt h
  rw [lN_toInt (by omega), lN_toInt (by omega)] at this
  omega
theorem st_next {sa md mo out h nt wy lv tx ne nz nw la pa na so nl U lg K ti lc lw cm sg len at' : Nat} {fd fa ro a b i r bb : Int32} {t : Int64} {Wa : Nat → Nat} {L : Nat → lr_T} {fp : Nat → Nat} {Z : Nat → List (Int32 × Int32)} {N C : Nat → Int32} {Pa : Nat → Nat} {pf : Nat → Nat → Int32} {lf cf : Nat → Int32} {hl : Nat → Nat} {M : Nat → Nat} {I : Nat → Int32} {Ai : Nat → Nat → Int32} {Aj : Nat → Nat → Int64} {cn : Nat → Nat} {f : Nat → Int64} {g g1 g2 : pz_H} (hc : clS sa g (h, (nt, wy, lv, tx), (ne, nz, nw), (la, pa, na, so, fd, Wa), (nl, L, U), (fp, Z, N, C), (lg, K, Pa, pf), (ti, lc, lw, lf), ((cm, sg, len, at'), (fa, ro), cf, hl))) (hk : lwC ne nz nw nl L Z N C K pf len cf I Ai Aj cn) (ho : g out = some ([17], ou_c f))
    (h1 : po_L_next sa md (((h, a, b, t, i), (nt, wy, lv, tx), (ne, nz, nw), (la, pa, na, so, fd, Wa), (nl, L, U), (fp, Z, N, C), (ti, lc, lw, lf)), out, f) [] g (some (.inl r)) g1) (h2 : po_X10_next ((a, b, t, i), (a.toNatClampNeg, b.toNatClampNeg), (nl, ne, nz, nw, cn), (mo, M, I, Ai, Aj)) [] g1 (some (.inl bb)) g2) : lwR sa g2 h mo out M len r bb.toInt64 := by
  obtain ⟨t2, h2⟩ := h2
  rcases h1 with ⟨hr, y, g1', f', ⟨nJ, nX, fr, to, T, n, hfr, rfl, hto, rfl, hT, rfl, hn, rfl, hv, p5, p6, p7, lc', lw', lf', p8⟩, ho1, hf', rfl⟩ | ⟨E, ⟨rfl, hpx⟩, hE⟩
  · cases hr
    cases hv
    rcases h2 with ⟨hb, -, -⟩ | ⟨-, T', n', hT', eT, hn', en, hv2, Aj', hm, hag⟩
    · rw [Bool.or_eq_true, me_bad_t, mn_b_t] at hb
      rcases hb with hb | hb
      · exact absurd hb nJ
      · exact absurd hb nX
    · have e1 := lN_in hT hT' eT
      subst e1
      have e2 := ni_inj (by omega) (by omega) en
      subst e2
      cases hv2
      obtain ⟨a1, a2, a3, a4, a5, a6, a7, a8, a9⟩ := hc
      obtain ⟨hcp, -⟩ := cp_all hT hk.1.2.2.2.1.2 (fun i hi => (hk.1.2.2.2.2 i hi).2.1) hk.2.1
      have hq := q_next (from' := (nI fr).toNatClampNeg) (to := (nI to).toNatClampNeg) hT hk.1.1.2 (fun i hi => (hk.1.2.2.2.2 i hi).2.1) hcp (n := n) (f := lf) (t0 := Aj 32) (b0 := Aj 33)
      have hk' : lwC ne nz nw nl L Z N C K pf len cf (upd I 0 0) Ai Aj' cn := lwC_ag (fun _ _ => rfl) (fun k hk => hag k (by
        intro e
        simp only [List.mem_cons, List.not_mem_nil, or_false] at hk e
        omega)) (fun k hk => pk_un (by
        intro e; rw [e] at hk; exact absurd hk (by decide))) ⟨by rw [pk_un (by decide)]; exact hk.2.2.2.1.1, hk.2.2.2.1.2.1, cpW_ag rfl (hag 24 (by decide)) rfl rfl rfl hk.2.2.2.1.2.2⟩ hk
      exact lwR_ok (cs := (h, (nt, wy, lv, tx), (ne, nz, nw), (la, pa, na, so, _, Wa), (nl, L, U), (fp, Z, N, C), (lg, K, Pa, pf), (ti, lc', lw', lf'), ((cm, sg, len, at'), (fa, ro), cf, hl))) rfl ⟨p5 _ _ _ a1 (by simp [gaSc, lnSc]), p6, p7, plS_mono p5 (by simp [gaSc, lnSc]) a4, neS_mono p5 (by simp [gaSc, lnSc]) a5, wyS_m p5 (by simp [gaSc, lnSc]) a6, p8, txS_mono p5 (by simp [gaSc, lnSc]) a8, lsE_mono p5 (by simp [gaSc, lnSc]) a9⟩ hk' ho1 t2 hm pk_us (by
        rw [hf', hq, ni_cl (by omega), ni_cl (by omega)])
  · have hbad : ∃ rr : Int32, rr = r ∧ rr ≠ 0 ∧ rf3 (me_bad a b) (mn_b t i) false = rr ∧ (me_bad a b || mn_b t i) = true := by
      rcases hpx with ⟨rfl, hb⟩ | ⟨rfl, hb, hx⟩
      · rcases hE with ⟨-, hv⟩ | ⟨e, -⟩
        · cases hv
          rw [me_bad_t.mpr hb]
          exact ⟨1, rfl, by decide, rfl, rfl⟩
        · exact absurd e (by decide)
      · rcases hE with ⟨e, -⟩ | ⟨-, hv⟩
        · exact absurd e (by decide)
        · cases hv
          rw [b_no me_bad_t hb, mn_b_t.mpr hx]
          exact ⟨2, rfl, by decide, rfl, rfl⟩
    obtain ⟨rr, rfl, hr0, hrf, hbd⟩ := hbad
    rcases h2 with ⟨-, -, hm⟩ | ⟨hb, -⟩
    · rw [hrf] at hm
      exact lwR_ref (cs := (h, (nt, wy, lv, tx), (ne, nz, nw), (la, pa, na, so, fd, Wa), (nl, L, U), (fp, Z, N, C), (lg, K, Pa, pf), (ti, lc, lw, lf), ((cm, sg, len, at'), (fa, ro), cf, hl))) hr0 rfl hc hk ho t2 hm
    · rw [hbd] at hb; cases hb
theorem nI_m1 {k : Nat} (hk : k ≤ 1000) : nI k ≠ -1 := fun e => by
  have := congrArg Int32.toInt e
  rw [nI_toInt (by omega), show (-1 : Int32).toInt = -1 from rfl] at this
  omega
theorem lwC_way {ne nz nw nl K K' len : Nat} {L : Nat → lr_T} {Z : Nat → List (Int32 × Int32)} {N C : Nat → Int32} {pf pf' : Nat → Nat → Int32} {cf I : Nat → Int32} {Ai Ai' : Nat → Nat → Int32} {Aj Aj' : Nat → Nat → Int64} {cn : Nat → Nat} (hA : agI [23, 25, 26, 31] Ai Ai') (hJ : agJ [21, 24, 29, 30] Aj Aj') (hw : K' ≤ 6 ∧ cpW Ai' Aj' K' pf') (h : lwC ne nz nw nl L Z N C K pf len cf I Ai Aj cn) : lwC ne nz nw nl L Z N C K' pf' len cf (upd (upd I 0 0) 22 (nI K')) Ai' Aj' cn := by
  refine lwC_ag (fun k hk => hA k (by
    intro e
    simp only [List.mem_cons, List.not_mem_nil, or_false] at hk e
    omega)) (fun k hk => hJ k (by
    intro e
    simp only [List.mem_cons, List.not_mem_nil, or_false] at hk e
    omega)) (fun k hk => ?_) ⟨pk_us, hw⟩ h
  rw [pk_un (by intro e; rw [e] at hk; exact absurd hk (by decide)), pk_un (by intro e; rw [e] at hk; exact absurd hk (by decide))]
theorem st_earliest {sa md mo out h nt wy lv tx ne nz nw la pa na so nl U lg K ti lc lw cm sg len at' : Nat} {fd fa ro a b r : Int32} {t : Int64} {Wa : Nat → Nat} {L : Nat → lr_T} {fp : Nat → Nat} {Z : Nat → List (Int32 × Int32)} {N C : Nat → Int32} {Pa : Nat → Nat} {pf : Nat → Nat → Int32} {lf cf : Nat → Int32} {hl : Nat → Nat} {M : Nat → Nat} {I : Nat → Int32} {Ai : Nat → Nat → Int32} {Aj : Nat → Nat → Int64} {cn : Nat → Nat} {f : Nat → Int64} {g g1 : pz_H} (hc : clS sa g (h, (nt, wy, lv, tx), (ne, nz, nw), (la, pa, na, so, fd, Wa), (nl, L, U), (fp, Z, N, C), (lg, K, Pa, pf), (ti, lc, lw, lf), ((cm, sg, len, at'), (fa, ro), cf, hl))) (hk : lwC ne nz nw nl L Z N C K pf len cf I Ai Aj cn) (ho : g out = some ([17], ou_c f))
    (h1 : po_L_earliest sa md (((h, a, b, t), (nt, wy, lv, tx), (ne, nz, nw), (la, pa, na, so, fd, Wa), (nl, L, U), (fp, Z, N, C), (lg, K, Pa, pf)), out, f) [] g (some (.inl r)) g1) : ∃ Kx w q, (me_bad a b = false → wi t 0 1700000000 = true → a = nI a.toNatClampNeg ∧ a.toNatClampNeg < 100 ∧ b = nI b.toNatClampNeg ∧ b.toNatClampNeg < 100 ∧ ∃ T, T ≤ 1700000000 ∧ t = lN T ∧ (ee Ai Aj ne nz nw cn a.toNatClampNeg T nl 6 (600 + b.toNatClampNeg) ≠ 9223372036854775807 → me_K Ai Aj ne nz nw cn a.toNatClampNeg T nl b.toNatClampNeg Kx w q)) ∧ ∀ g2 bb, po_X10_earliest ((a, b, t), (a.toNatClampNeg, b.toNatClampNeg, Kx, w, q), (nl, ne, nz, nw, cn), (mo, M, I, Ai, Aj)) [] g1 (some (.inr (.inl bb))) g2 → lwR sa g2 h mo out M len r bb := by
  rcases h1 with ⟨hr, y, g1', f', ⟨nJ, nR, fr, to, T, hfr, rfl, hto, rfl, hT, rfl, p5, ⟨fd', p6⟩, p7, p8, hcs⟩, ho1, hf', rfl⟩ | ⟨E, ⟨rfl, hpx⟩, hE⟩
  · cases hr
    obtain ⟨a1, a2, a3, a4, a5, a6, a7, a8, a9⟩ := hc
    have c1 : (nI fr).toNatClampNeg = fr := ni_cl (by omega)
    have c2 : (nI to).toNatClampNeg = to := ni_cl (by omega)
    rw [c1, c2]
    have hbf : me_bad (nI fr) (nI to) = false := b_no me_bad_t nJ
    have hwf : (!wi (lN T) 0 1700000000) = false := wi_n.mpr nR
    have hnw := hk.1.2.2.2.1.2
    have hcn : ∀ i, i < nl → cn i ≤ 12 := fun i hi => (hk.1.2.2.2.2 i hi).2.1
    have hC : ∀ p, p < 100 → 0 ≤ (C p).toInt ∧ (C p).toInt ≤ 100000 := fun p hp => (hk.2.1.2.2 p hp).2
    have hC' : ∀ p, p < 100 → 0 ≤ (Ai 20 p).toInt ∧ (Ai 20 p).toInt ≤ 100000 := fun p hp => by
      rw [← (hk.2.1.2.2 p hp).1]; exact hC p hp
    obtain ⟨hcp, hX⟩ := cp_all hT hnw hcn hk.2.1
    have fin : ∀ (K' : Nat) (pf' : Nat → Nat → Int32) (g2 : pz_H) (Ai' : Nat → Nat → Int32) (Aj' : Nat → Nat → Int64) (bb : Int64), wyS g1' wy lg (nI K') Pa pf' → hg moL (va_up g1' out (some ([17], ou_c f'))) g2 → moS g2 mo M (upd (upd I 0 0) 22 (nI K')) Ai' Aj' → agI [23, 25, 26, 31] Ai Ai' → agJ [21, 24, 29, 30] Aj Aj' → K' ≤ 6 ∧ cpW Ai' Aj' K' pf' → f' 0 = bb → lwR sa g2 h mo out M len 0 bb := fun K' pf' g2 Ai' Aj' bb hwy t2 hm hA hJ hw hbb =>
      lwR_ok (cs := (h, (nt, wy, lv, tx), (ne, nz, nw), (la, pa, na, so, fd', Wa), (nl, L, U), (fp, Z, N, C), (lg, K', Pa, pf'), (ti, lc, lw, lf), ((cm, sg, len, at'), (fa, ro), cf, hl))) rfl ⟨p5 _ _ _ a1 (by simp [erSc, fbSc, lnSc]), p6, p7, plS_mono p5 (by simp [erSc, fbSc, lnSc]) a4, p8, hwy, lvS_m p5 (by simp [erSc, fbSc, lnSc]) a7, txS_mono p5 (by simp [erSc, fbSc, lnSc]) a8, lsE_mono p5 (by simp [erSc, fbSc, lnSc]) a9⟩ (lwC_way hA hJ hw hk) ho1 t2 hm (by rw [pk_un (by decide), pk_us]) hbb
    have hpre : ∀ (Kx : Nat) (w : Nat → Nat) (q : Nat → Nat × Nat × Nat × Nat), (ee Ai Aj ne nz nw cn fr T nl 6 (600 + to) ≠ 9223372036854775807 → me_K Ai Aj ne nz nw cn fr T nl to Kx w q) → (me_bad (nI fr) (nI to) = false → wi (lN T) 0 1700000000 = true → nI fr = nI fr ∧ fr < 100 ∧ nI to = nI to ∧ to < 100 ∧ ∃ T', T' ≤ 1700000000 ∧ lN T = lN T' ∧ (ee Ai Aj ne nz nw cn fr T' nl 6 (600 + to) ≠ 9223372036854775807 → me_K Ai Aj ne nz nw cn fr T' nl to Kx w q)) := fun Kx w q hh _ _ => ⟨rfl, hfr, rfl, hto, T, hT, rfl, hh⟩
    have hpost : ∀ (Kx : Nat) (w : Nat → Nat) (q : Nat → Nat × Nat × Nat × Nat) (g2 : pz_H) (bb : Int64), po_X10_earliest ((nI fr, nI to, lN T), (fr, to, Kx, w, q), (nl, ne, nz, nw, cn), (mo, M, I, Ai, Aj)) [] (va_up g1' out (some ([17], ou_c f'))) (some (.inr (.inl bb))) g2 → hg moL (va_up g1' out (some ([17], ou_c f'))) g2 ∧ ((ee Ai Aj ne nz nw cn fr T nl 6 (600 + to) = 9223372036854775807 ∧ bb = -1 ∧ ∃ Aj', moS g2 mo M (upd (upd I 0 0) 22 0) Ai Aj' ∧ agJ [21, 24, 29, 30] Aj Aj') ∨ (ee Ai Aj ne nz nw cn fr T nl 6 (600 + to) ≠ 9223372036854775807 ∧ bb = ee Ai Aj ne nz nw cn fr T nl 6 (600 + to) ∧ ∃ Ai' Aj', moS g2 mo M (upd (upd I 0 0) 22 (nI Kx)) Ai' Aj' ∧ agI [23, 25, 26, 31] Ai Ai' ∧ agJ [21, 24, 29, 30] Aj Aj' ∧ ∀ n, n < Kx → Ai' 23 n = nI (q n).1 ∧ Aj' 24 n = dy T (q n).2.1 ∧ Ai' 25 n = nI (q n).2.2.2 ∧ Ai' 26 n = nI (q n).2.2.1 ∧ Ai' 31 (2 * n) = (mt_t Ai Aj nz nw (q n).1 (dy T (q n).2.1) (q n).2.2.2 true).toInt32 ∧ Ai' 31 (2 * n + 1) = (mt_t Ai Aj nz nw (q n).1 (dy T (q n).2.1) (q n).2.2.1 false).toInt32)) := by
      rintro Kx w q g2 bb ⟨t2, ⟨hb, -⟩ | ⟨-, T', hT', eT, hh⟩⟩
      · rw [hbf, hwf] at hb; cases hb
      · have e1 := lN_in hT hT' eT
        subst e1
        refine ⟨t2, ?_⟩
        rcases hh with ⟨x1, x2, x3⟩ | ⟨x1, x2, x3⟩
        · cases x2; exact Or.inl ⟨x1, rfl, x3⟩
        · cases x2; exact Or.inr ⟨x1, rfl, x3⟩
    have hTm : lN T ≠ 9223372036854775807 := fun e => by
      have := congrArg Int64.toInt e
      rw [lN_toInt (by omega), show (9223372036854775807 : Int64).toInt = 9223372036854775807 from rfl] at this
      omega
    rcases hcs with ⟨rfl, hv, hwy⟩ | ⟨hft, K6, so', W, fl, hK6, hR, hKf, hcs⟩
    · cases hv
      obtain ⟨s1, s2⟩ := q_same (from' := fr) hfr hT (q_cpX hcp hX) hC'
      refine ⟨0, fun _ => fr, fun _ => (0, 0, 0, 0), hpre _ _ _ (fun _ => s2 _), fun g2 bb h2 => ?_⟩
      obtain ⟨t2, ⟨x1, -⟩ | ⟨-, rfl, Ai', Aj', hm, hA, hJ, -⟩⟩ := hpost _ _ _ _ _ h2
      · rw [s1] at x1; exact absurd x1 hTm
      · exact fin 0 pf g2 Ai' Aj' _ hwy t2 hm hA hJ ⟨by omega, fun i w hi => by omega⟩ (by rw [hf', s1])
    · rcases q_fin (W := W) hft hfr hto hT hcp hX hC hR hKf hK6 pf with ⟨q1, q2⟩ | ⟨k, w, q, k1, k2, k3, k4, k5, k6, k7, k8⟩
      · refine ⟨0, fun _ => fr, fun _ => (0, 0, 0, 0), hpre _ _ _ (fun e => absurd q2 e), fun g2 bb h2 => ?_⟩
        obtain ⟨t2, ⟨-, rfl, Aj', hm, hJ⟩ | ⟨x1, -⟩⟩ := hpost _ _ _ _ _ h2
        · rcases hcs with ⟨-, hv, hwy⟩ | ⟨j, j1, j2, j3, -⟩
          · cases hv
            exact fin 0 pf g2 Ai Aj' _ hwy t2 hm agI_rf hJ ⟨by omega, fun i w hi => by omega⟩ hf'
          · rw [q1] at j3; exact absurd j3.symm (nI_m1 (by omega))
        · exact absurd q2 x1
      · refine ⟨k, w, q, hpre _ _ _ (fun _ => k6), fun g2 bb h2 => ?_⟩
        obtain ⟨t2, ⟨x1, -⟩ | ⟨-, rfl, Ai', Aj', hm, hA, hJ, hq⟩⟩ := hpost _ _ _ _ _ h2
        · exact absurd x1 k4
        · rcases hcs with ⟨q1, -⟩ | ⟨j, j1, j2, j3, hv, hwy⟩
          · rw [q1] at k3; exact absurd k3.symm (nI_m1 (by omega))
          · have ej : j = k := ni_inj (by omega) (by omega) (j3.symm.trans k3)
            subst ej
            cases hv
            rw [k8] at hwy
            exact fin j _ g2 Ai' Aj' _ hwy t2 hm hA hJ ⟨by omega, cpW_tell hT hcp k7 hq⟩ (by
              rw [hf', i6_eq, Int32.toInt_toInt64, k5])
  · have hbad : ∃ rr : Int32, rr = r ∧ rr ≠ 0 ∧ rf3 (me_bad a b) (!wi t 0 1700000000) false = rr ∧ (me_bad a b || !wi t 0 1700000000) = true := by
      rcases hpx with ⟨rfl, hb⟩ | ⟨rfl, hb, hx⟩
      · rcases hE with ⟨-, hv⟩ | ⟨e, -⟩
        · cases hv
          rw [me_bad_t.mpr hb]
          exact ⟨1, rfl, by decide, rfl, rfl⟩
        · exact absurd e (by decide)
      · rcases hE with ⟨e, -⟩ | ⟨-, hv⟩
        · exact absurd e (by decide)
        · cases hv
          rw [b_no me_bad_t hb, wi_bdR.mpr hx]
          exact ⟨2, rfl, by decide, rfl, rfl⟩
    obtain ⟨rr, rfl, hr0, hrf, hbd⟩ := hbad
    refine ⟨0, fun _ => 0, fun _ => (0, 0, 0, 0), (fun e1 e2 => by rw [e1, e2] at hbd; cases hbd), ?_⟩
    rintro g2 bb ⟨t2, ⟨-, -, hm⟩ | ⟨hb, -⟩⟩
    · rw [hrf] at hm
      exact lwR_ref (cs := (h, (nt, wy, lv, tx), (ne, nz, nw), (la, pa, na, so, fd, Wa), (nl, L, U), (fp, Z, N, C), (lg, K, Pa, pf), (ti, lc, lw, lf), ((cm, sg, len, at'), (fa, ro), cf, hl))) hr0 rfl hc hk ho t2 hm
    · rw [hbd] at hb; cases hb
