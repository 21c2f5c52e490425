/-! one call of the script: read -/
theorem lwC_read {ne nz nw nl K len m : Nat} {L L' : Nat → lr_T} {D : Nat → cl_D} {Z : Nat → List (Int32 × Int32)} {N C : Nat → Int32} {pf : Nat → Nat → Int32} {cf I I' : Nat → Int32} {Ai Ai' : Nat → Nat → Int32} {Aj Aj' : Nat → Nat → Int64} {cn : Nat → Nat} (h40 : nl + m ≤ 40) (hag : tAg nl Ai Aj Ai' Aj') (hD : ∀ i, i < m → tD Ai' Aj' (nl + i) (D i)) (hLo : ∀ j, j < nl → L' j = L j) (hLn : ∀ i, i < m → clK (L' (nl + i)) (D i)) (hI1 : I' 1 = nI (nl + m)) (hI27 : I' 27 = 0) (hI : ∀ k, k ∈ [7, 11, 15, 22] → I' k = I k) (h : lwC ne nz nw nl L Z N C K pf len cf I Ai Aj cn) : ∃ cn', lwC ne nz nw (nl + m) L' Z N C K pf 0 cf I' Ai' Aj' cn' := by
  obtain ⟨⟨w1, w2, w3, w4, w5⟩, ⟨d1, d2, d3⟩, h3, h4, h5, h6, h7⟩ := h
  have g1 := hag.1
  have g2 := hag.2.1
  have g3 := hag.2.2
  have hU' : cpU Ai' Aj' nl ne nz nw := cpU_ag (Nat.le_refl _) (g1 8 (by decide)) (g1 16 (by decide)) (g1 12 (by decide)) (g2 13 (by decide)) h3
  refine ⟨fun l => if l < nl then cn l else (D (l - nl)).2.1, ⟨⟨hI1, h40⟩, ?_, ?_, ?_, fun l hl => ?_⟩, ⟨fun l hl => ?_, fun p hp => ?_, fun p hp => ?_⟩, ?_, ?_, ⟨hI27, by omega, ?_⟩, ?_, fun i hi => ?_⟩
  · rw [hI 7 (by decide), g1 10 (by decide)]; exact w2
  · rw [hI 11 (by decide)]; exact w3
  · rw [hI 15 (by decide)]; exact w4
  · dsimp only
    by_cases hln : l < nl
    · rw [if_pos hln]
      obtain ⟨x1, x2, x3⟩ := w5 l hln
      obtain ⟨y1, y2, y3⟩ := g3 l hln
      exact ⟨y2.trans x1, x2, fun j hj => by rw [(y3 j (by omega)).1]; exact x3 j hj⟩
    · rw [if_neg hln]
      have hd := hD (l - nl) (by omega)
      rw [show nl + (l - nl) = l by omega] at hd
      rcases hDe : D (l - nl) with ⟨wd, n, f1, f2, f3⟩
      rw [hDe] at hd
      obtain ⟨-, e2, e3, e4⟩ := hd
      exact ⟨e3, e2, fun j hj => by
        obtain ⟨⟨p, hp, e5⟩, e6, -⟩ := e4 j hj
        exact ⟨p, hp, e6.symm.trans e5⟩⟩
  · dsimp only
    by_cases hln : l < nl
    · rw [if_pos hln, hLo l hln]
      exact cpL_tag (w5 l hln).2.1 hln hag (d1 l hln)
    · rw [if_neg hln]
      have hd := hD (l - nl) (by omega)
      obtain ⟨k1, k2, k3, k4, -⟩ := hLn (l - nl) (by omega)
      rw [show nl + (l - nl) = l by omega] at hd k1 k2 k3 k4
      exact cpL_came (by omega) (by omega) hU' hd k1 k2 k3 k4
  · exact cpZ_ag (g1 12 (by decide)) (g1 14 (by decide)) (g2 13 (by decide)) (d2 p hp)
  · rw [g1 20 (by decide)]; exact d3 p hp
  · exact cpU_ag (by omega) rfl rfl rfl rfl hU'
  · rw [hI 22 (by decide)]
    exact ⟨h4.1, h4.2.1, cpW_ag (g1 23 (by decide)) (g2 24 (by decide)) (g1 25 (by decide)) (g1 26 (by decide)) (g1 31 (by decide)) h4.2.2⟩
  · rw [g1 28 (by decide)]; exact h5.2.2
  · rw [g1 12 (by decide)]; exact h6
  · by_cases hin : i < nl
    · rw [hLo i hin]; exact h7 i hin
    · have k := (hLn (i - nl) (by omega)).2.2.2.1
      rw [show nl + (i - nl) = i by omega] at k
      rw [k]
      exact ⟨List.Pairwise.nil, fun q hq => by cases hq⟩
theorem mrd_k {I : Nat → Int32} {a k j : Nat} {phi : Int32} (h0 : j ≠ 0) (h1 : j ≠ 1) (h2 : j ≠ 27) (h3 : j ≠ 35) (h4 : j ≠ 36) : iaf (upd (mrd_I I k) 27 0) a phi j = I j := by
  unfold iaf mrd_I
  rw [pk_un h4, pk_un h3, pk_un h2, pk_un h1, pk_un h0]
theorem mrd_1 {I : Nat → Int32} {a k : Nat} {phi : Int32} : iaf (upd (mrd_I I k) 27 0) a phi 1 = nI k := by
  unfold iaf mrd_I
  rw [pk_un (by decide), pk_un (by decide), pk_un (by decide), pk_us]
theorem mrd_27 {I : Nat → Int32} {a k : Nat} {phi : Int32} : iaf (upd (mrd_I I k) 27 0) a phi 27 = 0 := by
  unfold iaf mrd_I
  rw [pk_un (by decide), pk_un (by decide), pk_us]
theorem ni_sb {a b : Nat} (h : a + b ≤ 1000) : nI (a + b) - nI a = nI b := by
  rw [i3_eq, i3_sub (by rw [nI_toInt (by omega), nI_toInt (by omega)]; omega) (by rw [nI_toInt (by omega), nI_toInt (by omega)]; omega), nI_toInt (by omega), nI_toInt (by omega), nI_toInt (by omega)]
  omega
theorem st_read {sa mo out h nt wy lv tx ne nz nw la pa na so nl U lg K ti lc lw cm sg len at' : Nat} {fd fa ro r b : Int32} {Wa : Nat → Nat} {L : Nat → lr_T} {fp : Nat → Nat} {Z : Nat → List (Int32 × Int32)} {N C : Nat → Int32} {Pa : Nat → Nat} {pf : Nat → Nat → Int32} {lf cf : Nat → Int32} {hl : Nat → Nat} {D : Nat → cl_D} {M : Nat → Nat} {I : Nat → Int32} {Ai : Nat → Nat → Int32} {Aj : Nat → Nat → Int64} {cn : Nat → Nat} {f : Nat → Int64} {g g1 g2 : pz_H} (hc : clS sa g (h, (nt, wy, lv, tx), (ne, nz, nw), (la, pa, na, so, fd, Wa), (nl, L, U), (fp, Z, N, C), (lg, K, Pa, pf), (ti, lc, lw, lf), ((cm, sg, len, at'), (fa, ro), cf, hl))) (hk : lwC ne nz nw nl L Z N C K pf len cf I Ai Aj cn) (ho : g out = some ([17], ou_c f))
    (h1 : po_X9_read sa (h, (nt, wy, lv, tx), (ne, nz, nw), (la, pa, na, so, fd, Wa), (nl, L, U), ((cm, sg, len, at'), (fa, ro), cf, hl, D)) [] g (some (.inl r)) g1) (h2 : po_X10_read ((len, nl), (mo, M, I, Ai, Aj)) [] g1 (some (.inl b)) g2) : r = b ∧ lwI sa g2 h mo out M 0 := by
  obtain ⟨t2, h2⟩ := h2
  obtain ⟨hv, p5, ⟨at2, fa2, ro2, p6⟩, ⟨hl2, p7⟩, L', U', hU, hLo, hLn, p8⟩ := h1
  have hR := tR_0 (n := len) (k0 := nl) (f := cf) (A0 := Ai) (J0 := Aj) hk.2.2.2.2.1.2.1 hk.1.1.2 hk.2.2.2.2.1.2.2.symm D
  generalize tp_0 len cf (40 - nl) D = s at *
  generalize mrd_0 len nl Ai Aj = rr at *
  obtain ⟨⟨a, e⟩, m, D'⟩ := s
  obtain ⟨⟨a', phi⟩, ⟨k, ln⟩, Ai', Aj'⟩ := rr
  obtain ⟨hag, hR⟩ := hR
  obtain ⟨a1, a2, a3, a4, a5, a6, a7, a8, a9⟩ := hc
  have ho2 : g2 out = some ([17], ou_c f) := t2 _ _ _ (p5 _ _ _ ho (by simp [rdSc, trSc])) (by simp [moL])
  have fin : ∀ (m : Nat) (I' : Nat → Int32), nl + m ≤ 40 → (∀ i, i < m → tD Ai' Aj' (nl + i) (D' i)) → (∀ i, i < m → clK (L' (nl + i)) (D' i)) → nlE g1 la sa (nl + m) L' U' → I' 1 = nI (nl + m) → I' 27 = 0 → (∀ k, k ∈ [7, 11, 15, 22] → I' k = I k) → moS g2 mo M I' Ai' Aj' → lwI sa g2 h mo out M 0 := fun m I' h40 hD hLn' hnl hI1 hI27 hI hm => by
    obtain ⟨cn', hk'⟩ := lwC_read h40 hag hD hLo hLn' hI1 hI27 hI hk
    refine ⟨(h, (nt, wy, lv, tx), (ne, nz, nw), (la, pa, na, so, fd, Wa), (nl + m, L', U'), (fp, Z, N, C), (lg, K, Pa, pf), (ti, lc, lw, lf), ((cm, sg, 0, at2), (fa2, ro2), cf, hl2)), I', Ai', Aj', cn', f, rfl, rfl, ?_, hm, hk', ho2⟩
    exact clS_mdX (hg_mono t2 (fun b hb => Or.inr hb)) ⟨p5 _ _ _ a1 (by simp [rdSc, trSc]), ntS_mono p5 (by simp [rdSc, trSc]) a2, hnl, plS_mono p5 (by simp [rdSc, trSc]) a4, neS_mono p5 (by simp [rdSc, trSc]) a5, wyS_m p5 (by simp [rdSc, trSc]) a6, lvS_m p5 (by simp [rdSc, trSc]) a7, p6, p7⟩
  have hIk : ∀ (k : Nat) (a : Nat) (phi : Int32), ∀ j, j ∈ [7, 11, 15, 22] → iaf (upd (mrd_I I k) 27 0) a phi j = I j := fun k a phi j hj => mrd_k (by
    intro e; rw [e] at hj; exact absurd hj (by decide)) (by
    intro e; rw [e] at hj; exact absurd hj (by decide)) (by
    intro e; rw [e] at hj; exact absurd hj (by decide)) (by
    intro e; rw [e] at hj; exact absurd hj (by decide)) (by
    intro e; rw [e] at hj; exact absurd hj (by decide))
  rcases hR with ⟨rfl, rfl, rfl, rfl, h40, -, hD⟩ | ⟨hf, hphi, rfl⟩
  · have eN : rdN ((a, -1), m, D') = m := rfl
    have eV : rdV ((a, -1), m, D') = nI m := rfl
    rw [eN] at hLn p8
    rw [eV] at hv
    cases hv
    rcases h2 with ⟨-, hb, hm⟩ | ⟨hb, -⟩
    · cases hb
      exact ⟨(ni_sb (by omega)).symm, fin m _ h40 hD hLn p8 mrd_1 mrd_27 (hIk _ _ _) hm⟩
    · exact absurd m1_neg hb
  · have eN : rdN ((a, phi), m, D') = 0 := if_neg hf
    have eV : rdV ((a, phi), m, D') = -1 - phi := if_neg hf
    rw [eN] at p8
    rw [eV] at hv
    have er : r = -1 - phi := Sum.inl.inj (Option.some.inj hv)
    rcases h2 with ⟨hb, -⟩ | ⟨-, hb, hm⟩
    · exact absurd hb hphi
    · have eb : b = -1 - phi := Sum.inl.inj (Option.some.inj hb)
      exact ⟨er.trans eb.symm, fin 0 _ hk.1.1.2 (fun i hi => by omega) (fun i hi => by omega) p8 mrd_1 mrd_27 (hIk _ _ _) hm⟩
