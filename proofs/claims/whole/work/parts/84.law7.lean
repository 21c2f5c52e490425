/-! one call of the script: exception -/
theorem mf_sp {p : Nat → Bool} {n : Nat} : (fs_s p 0 n = none ∧ mf_at (fs_s p 0 n) n = n ∧ mf_n (mf_at (fs_s p 0 n) n) n = n + 1) ∨ ∃ j, fs_s p 0 n = some j ∧ j < n ∧ mf_at (fs_s p 0 n) n = j ∧ mf_n (mf_at (fs_s p 0 n) n) n = n := by
  rcases hs : fs_s p 0 n with _ | j
  · refine Or.inl ⟨rfl, rfl, ?_⟩
    show (if n = n then n + 1 else n) = n + 1
    rw [if_pos rfl]
  · have hj := fs_lt hs
    refine Or.inr ⟨j, rfl, by omega, rfl, ?_⟩
    show (if j = n then n + 1 else n) = n
    rw [if_neg (by omega)]
theorem mxA_ne {Ai : Nat → Nat → Int32} {a : Nat} {l x : Int32} {k : Nat} (h8 : k ≠ 8) (h10 : k ≠ 10) : mxA Ai a l x k = Ai k := by
  unfold mxA; rw [seqU_ne h10, seqU_ne h8]
theorem mxJ_ne {Aj : Nat → Nat → Int64} {a : Nat} {d : Int64} {k : Nat} (h9 : k ≠ 9) : mxJ Aj a d k = Aj k := by
  unfold mxJ; rw [seqJ_ne h9]
theorem lr_dw_dl {q : Option Nat} {dl : List (Int32 × Int32)} {x : lr_T} : (lr_dw q dl x).2.2.2.2.1 = dl := rfl
theorem lwC_exc {ne nz nw nl K len k D at' : Nat} {q : Option Nat} {v : Int32} {L : Nat → lr_T} {Z : Nat → List (Int32 × Int32)} {N C : Nat → Int32} {pf : Nat → Nat → Int32} {cf I : Nat → Int32} {Ai : Nat → Nat → Int32} {Aj : Nat → Nat → Int64} {cn : Nat → Nat} (hkn : k < nl) (hD : D ≤ 20000) (hv : v = 0 ∨ v = 1) (hat : at' = mf_at (fs_s (mr_p Ai Aj (nI k) (lN D)) 0 ne) ne) (hne : mf_n at' ne ≤ 100) (h : lwC ne nz nw nl L Z N C K pf len cf I Ai Aj cn) : lwC (mf_n at' ne) nz nw nl (fun i => if i = k then lr_dw q (dw_put (nI D) v (L i).2.2.2.2.1) (L i) else L i) Z N C K pf len cf (upd (upd I 0 0) 7 (nI (mf_n at' ne))) (mxA Ai at' (nI k) v) (mxJ Aj at' (lN D)) cn := by
  obtain ⟨⟨w1, w2, w3, w4, w5⟩, ⟨d1, d2, d3⟩, h3, h4, h5, h6, h7⟩ := h
  have hnl := w1.2
  have eI : ∀ j, j ≠ 0 → j ≠ 7 → upd (upd I 0 0) 7 (nI (mf_n at' ne)) j = I j := fun j a b => by rw [pk_un b, pk_un a]
  have hlt : ∀ j, j < mf_n at' ne → j ≠ at' → j < ne := fun j hj hja => by
    unfold mf_n at hj
    by_cases e : at' = ne
    · rw [if_pos e] at hj; omega
    · rw [if_neg e] at hj; exact hj
  refine ⟨⟨?_, ⟨pk_us, hne, fun j hj => ?_⟩, ?_, ?_, fun l hl => ?_⟩, ⟨fun l hl => ?_, fun p hp => ?_, fun p hp => ?_⟩, ⟨fun j hj => ?_, ?_, ?_⟩, ?_, ?_, ?_, fun i hi => ?_⟩
  · rw [eI 1 (by decide) (by decide)]; exact w1
  · show upd (Ai 10) at' v j = 0 ∨ upd (Ai 10) at' v j = 1
    by_cases e : j = at'
    · rw [e, pk_us]; exact hv
    · rw [pk_un e]; exact w2.2.2 j (hlt j hj e)
  · rw [eI 11 (by decide) (by decide)]; exact w3
  · rw [eI 15 (by decide) (by decide)]; exact w4
  · rw [mxA_ne (by decide) (by decide), mxA_ne (by decide) (by decide)]; exact w5 l hl
  · have := cpL_dw (v := v) (dw := q) (l := k) (by omega) (by omega) hD (d1 l hl)
    rw [← hat] at this
    exact this
  · exact cpZ_ag (mxA_ne (by decide) (by decide)) (mxA_ne (by decide) (by decide)) (mxJ_ne (by decide)) (d2 p hp)
  · rw [mxA_ne (by decide) (by decide)]; exact d3 p hp
  · show ∃ l, l < nl ∧ upd (Ai 8) at' (nI k) j = nI l
    by_cases e : j = at'
    · rw [e, pk_us]; exact ⟨k, hkn, rfl⟩
    · rw [pk_un e]; exact h3.1 j (hlt j hj e)
  · rw [mxA_ne (by decide) (by decide)]; exact h3.2.1
  · rw [mxA_ne (by decide) (by decide), mxJ_ne (by decide)]; exact h3.2.2
  · rw [eI 22 (by decide) (by decide)]
    exact ⟨h4.1, h4.2.1, cpW_ag (mxA_ne (by decide) (by decide)) (mxJ_ne (by decide)) (mxA_ne (by decide) (by decide)) (mxA_ne (by decide) (by decide)) (mxA_ne (by decide) (by decide)) h4.2.2⟩
  · rw [eI 27 (by decide) (by decide), mxA_ne (by decide) (by decide)]; exact h5
  · rw [mxA_ne (by decide) (by decide)]; exact h6
  · by_cases hik : i = k
    · dsimp only
      rw [if_pos hik, lr_dw_dl]
      exact dwO_put (by rw [nI_toInt (by omega)]; omega) (h7 i hi)
    · dsimp only
      rw [if_neg hik]; exact h7 i hi
theorem mxe_aI {l : Int32} {nl : Nat} (hn : nl ≤ 40) : mxe_a l nl = true ↔ bdI l (nI nl) := wi_bdI (by omega)
theorem st_exception {sa md mo out h nt wy lv tx ne nz nw la pa na so nl U lg K ti lc lw cm sg len at' : Nat} {fd fa ro x z r b : Int32} {ta : Int64} {Wa : Nat → Nat} {L : Nat → lr_T} {fp : Nat → Nat} {Z : Nat → List (Int32 × Int32)} {N C : Nat → Int32} {Pa : Nat → Nat} {pf : Nat → Nat → Int32} {lf cf : Nat → Int32} {hl : Nat → Nat} {M : Nat → Nat} {I : Nat → Int32} {Ai : Nat → Nat → Int32} {Aj : Nat → Nat → Int64} {cn : Nat → Nat} {f : Nat → Int64} {g g1 g2 : pz_H} (hz : z = 0 ∨ z = 1) (hc : clS sa g (h, (nt, wy, lv, tx), (ne, nz, nw), (la, pa, na, so, fd, Wa), (nl, L, U), (fp, Z, N, C), (lg, K, Pa, pf), (ti, lc, lw, lf), ((cm, sg, len, at'), (fa, ro), cf, hl))) (hk : lwC ne nz nw nl L Z N C K pf len cf I Ai Aj cn) (ho : g out = some ([17], ou_c f))
    (h1 : po_L_exception sa md (((h, x, ta, z), (nt, wy, lv, tx), (ne, nz, nw), (la, pa, na, so, fd, Wa), (nl, L, U)), out, f) [] g (some (.inl r)) g1) (h2 : po_X10_exception (((x, ta, z), nl, ne), (mo, M, I, Ai, Aj)) [] g1 (some (.inl b)) g2) : lwR sa g2 h mo out M len r b.toInt64 := by
  obtain ⟨t2, h2⟩ := h2
  have hnl : nl ≤ 40 := hk.1.1.2
  have hne : ne ≤ 100 := hk.1.2.1.2.1
  have hgt : ∀ k D, k < nl → D ≤ 20000 → dw_get (L k).2.2.2.2.1 (nI D) = (fs_s (mr_p Ai Aj (nI k) (lN D)) 0 ne).map (Ai 10) := fun k D hkn hD => (hk.2.1.1 k hkn).2.2.2.1 D hD
  rcases h1 with ⟨hr, y, g1', f', ⟨p1, p2, k, D, hkn, rfl, hD, rfl, p3, p4, p5, p6, q, p7⟩, ho1, hf', rfl⟩ | ⟨E, ⟨rfl, hpx⟩, hE⟩
  · cases hr
    have hsp := mf_sp (p := mr_p Ai Aj (nI k) (lN D)) (n := ne)
    rw [hgt k D hkn hD] at p3 p4 p6
    generalize hat : mf_at (fs_s (mr_p Ai Aj (nI k) (lN D)) 0 ne) ne = at2 at *
    have e1 : mxe_a (nI k) nl = false := bf_n (mxe_aI hnl) p1
    have e2 : (!wi (lN D) 0 20000) = false := wi_n.mpr p2
    have hex : exN ne ((fs_s (mr_p Ai Aj (nI k) (lN D)) 0 ne).map (Ai 10)) = mf_n at2 ne ∧ at2 ≠ 100 ∧ mf_n at2 ne ≤ 100 := by
      rcases hsp with ⟨s1, s2, s3⟩ | ⟨j, s1, s2, s3, s4⟩
      · rw [s1] at p3 ⊢
        have : ne ≠ 100 := fun e => p3 ⟨e, rfl⟩
        exact ⟨s3.symm, by omega, by omega⟩
      · rw [s1]
        exact ⟨s4.symm, by omega, by omega⟩
    rw [hex.1] at p4 p6
    cases p4
    rcases h2 with ⟨hb, -, -⟩ | ⟨-, hv, hm⟩
    · rw [e1, e2, decide_eq_false hex.2.1] at hb; cases hb
    · cases hv
      obtain ⟨a1, a2, a3, a4, a5, a6, a7, a8, a9⟩ := hc
      exact lwR_ok (cs := (h, (nt, wy, lv, tx), (mf_n at2 ne, nz, nw), (la, pa, na, so, fd, Wa), (nl, (fun i => if i = k then lr_dw q (dw_put (nI D) z (L i).2.2.2.2.1) (L i) else L i), U), (fp, Z, N, C), (lg, K, Pa, pf), (ti, lc, lw, lf), ((cm, sg, len, at'), (fa, ro), cf, hl))) rfl ⟨p6, ntS_mono p5 (by simp) a2, p7, plS_mono p5 (by simp) a4, neS_mono p5 (by simp) a5, wyS_m p5 (by simp) a6, lvS_m p5 (by simp) a7, txS_mono p5 (by simp) a8, lsE_mono p5 (by simp) a9⟩ (lwC_exc hkn hD hz hat.symm hex.2.2 hk) ho1 t2 hm (by rw [pk_un (by decide), pk_us]) hf'
  · have hbad : ∃ rr : Int32, rr = r ∧ rr ≠ 0 ∧ rf3 (mxe_a x nl) (!wi ta 0 20000) (decide (mf_at (fs_s (mr_p Ai Aj x ta) 0 ne) ne = 100)) = rr ∧ (mxe_a x nl || (!wi ta 0 20000 || decide (mf_at (fs_s (mr_p Ai Aj x ta) 0 ne) ne = 100))) = true := by
      rcases hpx with ⟨rfl, hb⟩ | ⟨rfl, hb, hb2⟩ | ⟨rfl, hb, hb2, k, D, hkn, rfl, hD, rfl, h100, hnone⟩
      · rcases hE with ⟨-, hv⟩ | ⟨e, -⟩ | ⟨e, -⟩
        · cases hv
          rw [(mxe_aI hnl).mpr hb]
          exact ⟨1, rfl, by decide, rfl, rfl⟩
        · exact absurd e (by decide)
        · exact absurd e (by decide)
      · rcases hE with ⟨e, -⟩ | ⟨-, hv⟩ | ⟨e, -⟩
        · exact absurd e (by decide)
        · cases hv
          rw [bf_n (mxe_aI hnl) hb, wi_bdR.mpr hb2]
          exact ⟨2, rfl, by decide, rfl, rfl⟩
        · exact absurd e (by decide)
      · rcases hE with ⟨e, -⟩ | ⟨e, -⟩ | ⟨-, hv⟩
        · exact absurd e (by decide)
        · exact absurd e (by decide)
        · cases hv
          have e3 : mf_at (fs_s (mr_p Ai Aj (nI k) (lN D)) 0 ne) ne = 100 := by
            rw [hgt k D hkn hD] at hnone
            rcases mf_sp (p := mr_p Ai Aj (nI k) (lN D)) (n := ne) with ⟨s1, s2, s3⟩ | ⟨j, s1, s2, s3, s4⟩
            · omega
            · rw [s1] at hnone; cases hnone
          rw [bf_n (mxe_aI hnl) hb, wi_n.mpr hb2, decide_eq_true e3]
          exact ⟨3, rfl, by decide, rfl, rfl⟩
    obtain ⟨rr, rfl, hr0, hrf, hbd⟩ := hbad
    rcases h2 with ⟨-, -, hm⟩ | ⟨hb, -, -⟩
    · rw [hrf] at hm
      exact lwR_ref (cs := (h, (nt, wy, lv, tx), (ne, nz, nw), (la, pa, na, so, fd, Wa), (nl, L, U), (fp, Z, N, C), (lg, K, Pa, pf), (ti, lc, lw, lf), ((cm, sg, len, at'), (fa, ro), cf, hl))) hr0 rfl hc hk ho t2 hm
    · rw [hbd] at hb; cases hb
