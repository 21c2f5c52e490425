/-! one call of the script: the general part, line -/
theorem lwC_I {ne nz nw nl K len : Nat} {L : Nat → lr_T} {Z : Nat → List (Int32 × Int32)} {N C : Nat → Int32} {pf : Nat → Nat → Int32} {cf I I' : Nat → Int32} {Ai : Nat → Nat → Int32} {Aj : Nat → Nat → Int64} {cn : Nat → Nat} (hI : ∀ k, k ∈ [1, 7, 11, 15, 22, 27] → I' k = I k) (h : lwC ne nz nw nl L Z N C K pf len cf I Ai Aj cn) : lwC ne nz nw nl L Z N C K pf len cf I' Ai Aj cn := by
  obtain ⟨⟨w1, w2, w3, w4, w5⟩, h2, h3, h4, h5, h6⟩ := h
  refine ⟨⟨?_, ?_, ?_, ?_, w5⟩, h2, h3, ?_, ?_, h6⟩
  · rw [hI 1 (by decide)]; exact w1
  · rw [hI 7 (by decide)]; exact w2
  · rw [hI 11 (by decide)]; exact w3
  · rw [hI 15 (by decide)]; exact w4
  · rw [hI 22 (by decide)]; exact h4
  · rw [hI 27 (by decide)]; exact h5
theorem I0_k {I : Nat → Int32} {r : Int32} : ∀ k, k ∈ [1, 7, 11, 15, 22, 27] → upd I 0 r k = I k := fun k hk => pk_un (by
  intro e; rw [e] at hk; exact absurd hk (by decide))
theorem lwK_I {cs : cs_T} {I I' : Nat → Int32} {Ai : Nat → Nat → Int32} {Aj : Nat → Nat → Int64} {cn : Nat → Nat} (hI : ∀ k, k ∈ [1, 7, 11, 15, 22, 27] → I' k = I k) (h : lwK cs I Ai Aj cn) : lwK cs I' Ai Aj cn := lwC_I hI h
/-- a refused call -/
theorem lwR_ref {sa mo out len : Nat} {g g2 : pz_H} {cs : cs_T} {M : Nat → Nat} {I : Nat → Int32} {Ai : Nat → Nat → Int32} {Aj : Nat → Nat → Int64} {cn : Nat → Nat} {f : Nat → Int64} {r : Int32} {b : Int64} (hr : r ≠ 0) (hl : cs.2.2.2.2.2.2.2.2.1.2.2.1 = len) (hc : clS sa g cs) (hk : lwK cs I Ai Aj cn) (ho : g out = some ([17], ou_c f)) (hh : hg moL g g2) (hm : moS g2 mo M (upd I 0 r) Ai Aj) : lwR sa g2 cs.1 mo out M len r b := by
  have ho2 : g2 out = some ([17], ou_c f) := hh _ _ _ ho (by simp [moL])
  exact ⟨_, f, hm.1, pk_us, ho2, fun e => absurd e hr, cs, _, Ai, Aj, cn, f, rfl, hl, clS_mdX (hg_mono hh (fun b hb => Or.inr hb)) hc, hm, lwK_I I0_k hk, ho2⟩
/-- a call that is answered -/
theorem lwR_ok {sa mo out len : Nat} {g1 g2 : pz_H} {cs : cs_T} {M : Nat → Nat} {I : Nat → Int32} {Ai : Nat → Nat → Int32} {Aj : Nat → Nat → Int64} {cn : Nat → Nat} {f f' : Nat → Int64} {b : Int64} (hl : cs.2.2.2.2.2.2.2.2.1.2.2.1 = len) (hc : clS sa g1 cs) (hk : lwK cs I Ai Aj cn) (ho : g1 out = some ([17], ou_c f)) (hh : hg moL (va_up g1 out (some ([17], ou_c f'))) g2) (hm : moS g2 mo M I Ai Aj) (hI : I 0 = 0) (hb : f' 0 = b) : lwR sa g2 cs.1 mo out M len 0 b := by
  have ho2 : g2 out = some ([17], ou_c f') := hh _ _ _ up_at (by simp [moL])
  have t : hg mdX g1 g2 := hg_tr (hg_up (S := mdX) hg_rf ho (Or.inl rfl)) (hg_mono hh (fun b hb => Or.inr hb))
  exact ⟨_, f', hm.1, hI, ho2, fun _ => hb, cs, _, Ai, Aj, cn, f', rfl, hl, clS_mdX t hc, hm, hk, ho2⟩
theorem lwC_line {ne nz nw nl K len U q : Nat} {La Ra Rd : Nat → Nat} {x : Int32} {L : Nat → lr_T} {Z : Nat → List (Int32 × Int32)} {N C : Nat → Int32} {pf : Nat → Nat → Int32} {cf I : Nat → Int32} {Ai : Nat → Nat → Int32} {Aj : Nat → Nat → Int64} {cn : Nat → Nat} (hnl : nl < 40) (h : lwC ne nz nw nl L Z N C K pf len cf I Ai Aj cn) : lwC ne nz nw (nl + 1) (fun i => if i = nl then lr_z U q La Ra Rd x (fun _ => 0) (fun _ => 0) (fun _ => 0) else L i) Z N C K pf len cf (upd (upd I 0 0) 1 (nI (nl + 1))) (seqU (seqU Ai 2 (upd (Ai 2) nl x)) 3 (upd (Ai 3) nl 0)) Aj (fun i => if i = nl then 0 else cn i) := by
  obtain ⟨⟨w1, w2, w3, w4, w5⟩, ⟨d1, d2, d3⟩, h3, h4, h5, h6, h7⟩ := h
  have eI : ∀ k, k ≠ 0 → k ≠ 1 → upd (upd I 0 0) 1 (nI (nl + 1)) k = I k := fun k a b => by rw [pk_un b, pk_un a]
  have eA : ∀ k, k ≠ 2 → k ≠ 3 → seqU (seqU Ai 2 (upd (Ai 2) nl x)) 3 (upd (Ai 3) nl 0) k = Ai k := fun k a b => by rw [seqU_ne b, seqU_ne a]
  have e2 : seqU (seqU Ai 2 (upd (Ai 2) nl x)) 3 (upd (Ai 3) nl 0) 2 = upd (Ai 2) nl x := rfl
  have e3 : seqU (seqU Ai 2 (upd (Ai 2) nl x)) 3 (upd (Ai 3) nl 0) 3 = upd (Ai 3) nl 0 := rfl
  generalize seqU (seqU Ai 2 (upd (Ai 2) nl x)) 3 (upd (Ai 3) nl 0) = A' at *
  have hU' : cpU A' Aj nl ne nz nw := cpU_ag (Nat.le_refl _) (eA 8 (by decide) (by decide)) (eA 16 (by decide) (by decide)) (eA 12 (by decide) (by decide)) rfl h3
  refine ⟨⟨⟨pk_us, by omega⟩, ?_, ?_, ?_, fun l hl => ?_⟩, ⟨fun l hl => ?_, fun p hp => ?_, fun p hp => ?_⟩, ?_, ?_, ?_, ?_, fun i hi => ?_⟩
  · rw [eI 7 (by decide) (by decide), eA 10 (by decide) (by decide)]; exact w2
  · rw [eI 11 (by decide) (by decide)]; exact w3
  · rw [eI 15 (by decide) (by decide)]; exact w4
  · rw [e3, eA 4 (by decide) (by decide)]
    by_cases hln : l = nl
    · subst hln
      dsimp only
      rw [pk_us, if_pos rfl]
      exact ⟨rfl, by omega, fun j hj => by omega⟩
    · dsimp only
      rw [pk_un hln, if_neg hln]; exact w5 l (by omega)
  · by_cases hln : l = nl
    · subst hln
      dsimp only
      rw [if_pos rfl, if_pos rfl]
      exact cpL_new (by omega) hU' (by rw [e2, pk_us]; rfl) rfl rfl
    · dsimp only
      rw [if_neg hln, if_neg hln]
      exact cpL_ag (w5 l (by omega)).2.1 (by rw [e2, pk_un hln]) (fun k _ => by rw [eA 4 (by decide) (by decide)]) (fun _ _ => rfl) (fun _ _ => rfl) (eA 8 (by decide) (by decide)) rfl (eA 10 (by decide) (by decide)) (eA 16 (by decide) (by decide)) (eA 17 (by decide) (by decide)) rfl rfl (d1 l (by omega))
  · exact cpZ_ag (eA 12 (by decide) (by decide)) (eA 14 (by decide) (by decide)) rfl (d2 p hp)
  · rw [eA 20 (by decide) (by decide)]; exact d3 p hp
  · exact cpU_ag (by omega) rfl rfl rfl rfl hU'
  · rw [eI 22 (by decide) (by decide)]
    exact ⟨h4.1, h4.2.1, cpW_ag (eA 23 (by decide) (by decide)) rfl (eA 25 (by decide) (by decide)) (eA 26 (by decide) (by decide)) (eA 31 (by decide) (by decide)) h4.2.2⟩
  · rw [eI 27 (by decide) (by decide), eA 28 (by decide) (by decide)]; exact h5
  · rw [eA 12 (by decide) (by decide)]; exact h6
  · by_cases hin : i = nl
    · dsimp only
      rw [if_pos hin]
      exact ⟨List.Pairwise.nil, fun q hq => by cases hq⟩
    · dsimp only
      rw [if_neg hin]; exact h7 i (by omega)
theorem rf3_1 {b c : Bool} : rf3 true b c = 1 := rfl
theorem st_line {sa md mo out h nt wy lv tx ne nz nw la pa na so nl U lg K ti lc lw cm sg len at' : Nat} {fd fa ro x r b : Int32} {Wa : Nat → Nat} {L : Nat → lr_T} {fp : Nat → Nat} {Z : Nat → List (Int32 × Int32)} {N C : Nat → Int32} {Pa : Nat → Nat} {pf : Nat → Nat → Int32} {lf cf : Nat → Int32} {hl : Nat → Nat} {M : Nat → Nat} {I : Nat → Int32} {Ai : Nat → Nat → Int32} {Aj : Nat → Nat → Int64} {cn : Nat → Nat} {f : Nat → Int64} {g g1 g2 : pz_H} (hc : clS sa g (h, (nt, wy, lv, tx), (ne, nz, nw), (la, pa, na, so, fd, Wa), (nl, L, U), (fp, Z, N, C), (lg, K, Pa, pf), (ti, lc, lw, lf), ((cm, sg, len, at'), (fa, ro), cf, hl))) (hk : lwC ne nz nw nl L Z N C K pf len cf I Ai Aj cn) (ho : g out = some ([17], ou_c f))
    (h1 : po_L_line sa md (((h, x), (nt, wy, lv, tx), (ne, nz, nw), (la, pa, na, so, fd, Wa), (nl, L, U)), out, f) [] g (some (.inl r)) g1) (h2 : po_X10_line ((x, nl), (mo, M, I, Ai, Aj)) [] g1 (some (.inl b)) g2) : lwR sa g2 h mo out M len r b.toInt64 := by
  obtain ⟨t2, h2⟩ := h2
  have hnl : nl ≤ 40 := hk.1.1.2
  rcases h1 with ⟨hr, y, g1', f', ⟨p1, p2, p3, p4, q, La, Ra, Rd, p5⟩, ho1, hf', rfl⟩ | ⟨E, ⟨rfl, hpx⟩, hE⟩
  · cases hr
    cases p3
    rcases h2 with ⟨hb, -, -⟩ | ⟨-, hv, hm⟩
    · rw [Bool.or_eq_true, wi_bdR, decide_eq_true_eq] at hb
      rcases hb with hb | hb
      · exact absurd hb p1
      · omega
    · cases hv
      obtain ⟨a1, a2, a3, a4, a5, a6, a7, a8, a9⟩ := hc
      exact lwR_ok (cs := (h, (nt, wy, lv, tx), (ne, nz, nw), (la, pa, na, so, fd, Wa), (nl + 1, (fun i => if i = nl then lr_z U q La Ra Rd x (fun _ => 0) (fun _ => 0) (fun _ => 0) else L i), U + 1), (fp, Z, N, C), (lg, K, Pa, pf), (ti, lc, lw, lf), ((cm, sg, len, at'), (fa, ro), cf, hl))) rfl ⟨p4 _ _ _ a1 (by simp), ntS_mono p4 (by simp) a2, p5, plS_mono p4 (by simp) a4, neS_mono p4 (by simp) a5, wyS_m p4 (by simp) a6, lvS_m p4 (by simp) a7, txS_mono p4 (by simp) a8, lsE_mono p4 (by simp) a9⟩ (lwC_line p2 hk) ho1 t2 hm (by rw [pk_un (by decide), pk_us]) hf'
  · have hbad : ∃ rr : Int32, rr = r ∧ rr ≠ 0 ∧ rf3 (!wi x.toInt64 0 127) (decide (nl = 40)) false = rr ∧ (!wi x.toInt64 0 127 || decide (nl = 40)) = true := by
      rcases hpx with ⟨rfl, hb⟩ | ⟨rfl, hb, h40⟩
      · rcases hE with ⟨-, hv⟩ | ⟨e, -⟩
        · cases hv
          rw [wi_bdR.mpr hb]
          exact ⟨1, rfl, by decide, rfl, rfl⟩
        · exact absurd e (by decide)
      · rcases hE with ⟨e, -⟩ | ⟨-, hv⟩
        · exact absurd e (by decide)
        · cases hv
          rw [wi_n.mpr hb, decide_eq_true h40]
          exact ⟨2, rfl, by decide, rfl, rfl⟩
    obtain ⟨rr, rfl, hr0, hrf, hbd⟩ := hbad
    rcases h2 with ⟨-, -, hm⟩ | ⟨hb, -, -⟩
    · rw [hrf] at hm
      exact lwR_ref (cs := (h, (nt, wy, lv, tx), (ne, nz, nw), (la, pa, na, so, fd, Wa), (nl, L, U), (fp, Z, N, C), (lg, K, Pa, pf), (ti, lc, lw, lf), ((cm, sg, len, at'), (fa, ro), cf, hl))) hr0 rfl hc hk ho t2 hm
    · rw [hbd] at hb; cases hb
