/-! one call of the script: least, change -/
theorem lwC_least {ne nz nw nl K len k : Nat} {x : Int32} {L : Nat → lr_T} {Z : Nat → List (Int32 × Int32)} {N C : Nat → Int32} {pf : Nat → Nat → Int32} {cf I : Nat → Int32} {Ai : Nat → Nat → Int32} {Aj : Nat → Nat → Int64} {cn : Nat → Nat} (hk : k < 100) (hx : 0 ≤ x.toInt ∧ x.toInt ≤ 100000) (h : lwC ne nz nw nl L Z N C K pf len cf I Ai Aj cn) : lwC ne nz nw nl L Z N (upd C k x) K pf len cf I (seqU Ai 20 (upd (Ai 20) k x)) Aj cn := by
  obtain ⟨⟨w1, w2, w3, w4, w5⟩, ⟨d1, d2, d3⟩, h3, h4, h5, h6, h7⟩ := h
  have eA : ∀ j, j ≠ 20 → seqU Ai 20 (upd (Ai 20) k x) j = Ai j := fun j a => by rw [seqU_ne a]
  have e20 : seqU Ai 20 (upd (Ai 20) k x) 20 = upd (Ai 20) k x := rfl
  generalize seqU Ai 20 (upd (Ai 20) k x) = A' at *
  refine ⟨⟨w1, ?_, w3, w4, fun l hl => ?_⟩, ⟨fun l hl => ?_, fun p hp => ?_, fun p hp => ?_⟩, ?_, ?_, ?_, ?_, h7⟩
  · rw [eA 10 (by decide)]; exact w2
  · rw [eA 3 (by decide), eA 4 (by decide)]; exact w5 l hl
  · exact cpL_ag (w5 l hl).2.1 (by rw [eA 2 (by decide)]) (fun j _ => by rw [eA 4 (by decide)]) (fun _ _ => rfl) (fun _ _ => rfl) (eA 8 (by decide)) rfl (eA 10 (by decide)) (eA 16 (by decide)) (eA 17 (by decide)) rfl rfl (d1 l hl)
  · exact cpZ_ag (eA 12 (by decide)) (eA 14 (by decide)) rfl (d2 p hp)
  · rw [e20]
    by_cases e : p = k
    · rw [e, pk_us, pk_us]; exact ⟨rfl, hx⟩
    · rw [pk_un e, pk_un e]; exact d3 p hp
  · exact cpU_ag (Nat.le_refl _) (eA 8 (by decide)) (eA 16 (by decide)) (eA 12 (by decide)) rfl h3
  · exact ⟨h4.1, h4.2.1, cpW_ag (eA 23 (by decide)) rfl (eA 25 (by decide)) (eA 26 (by decide)) (eA 31 (by decide)) h4.2.2⟩
  · rw [eA 28 (by decide)]; exact h5
  · rw [eA 12 (by decide)]; exact h6
theorem st_least {sa md mo out h nt wy lv tx ne nz nw la pa na so nl U lg K ti lc lw cm sg len at' : Nat} {fd fa ro p r b : Int32} {ta : Int64} {Wa : Nat → Nat} {L : Nat → lr_T} {fp : Nat → Nat} {Z : Nat → List (Int32 × Int32)} {N C : Nat → Int32} {Pa : Nat → Nat} {pf : Nat → Nat → Int32} {lf cf : Nat → Int32} {hl : Nat → Nat} {M : Nat → Nat} {I : Nat → Int32} {Ai : Nat → Nat → Int32} {Aj : Nat → Nat → Int64} {cn : Nat → Nat} {f : Nat → Int64} {g g1 g2 : pz_H} (hc : clS sa g (h, (nt, wy, lv, tx), (ne, nz, nw), (la, pa, na, so, fd, Wa), (nl, L, U), (fp, Z, N, C), (lg, K, Pa, pf), (ti, lc, lw, lf), ((cm, sg, len, at'), (fa, ro), cf, hl))) (hk : lwC ne nz nw nl L Z N C K pf len cf I Ai Aj cn) (ho : g out = some ([17], ou_c f))
    (h1 : po_L_least sa md (((h, p, ta), (nt, wy, lv, tx), (ne, nz, nw), (la, pa, na, so, fd, Wa), (fp, Z, N, C)), out, f) [] g (some (.inl r)) g1) (h2 : po_X10_least ((p, ta), (mo, M, I, Ai, Aj)) [] g1 (some (.inl b)) g2) : lwR sa g2 h mo out M len r b.toInt64 := by
  obtain ⟨t2, h2⟩ := h2
  rcases h1 with ⟨hr, y, g1', f', ⟨k, hk1, rfl, p1, p2, p5, p6⟩, ho1, hf', rfl⟩ | ⟨E, ⟨rfl, hpx⟩, hE⟩
  · cases hr
    cases p2
    obtain ⟨X, hX, rfl⟩ := bR_nI (b := 100000) (by omega) p1
    have e1 : (!wi (nI k).toInt64 0 99) = false := bf_n wi_bd99 (fun e => by
      rcases e with e | e
      · rw [i3_lt, nI_toInt (by omega), show (0 : Int32).toInt = 0 from rfl] at e; omega
      · rw [i3_le, nI_toInt (by omega), show (100 : Int32).toInt = 100 from rfl] at e; omega)
    have e2 : (!wi (lN X) 0 100000) = false := wi_n.mpr p1
    rcases h2 with ⟨hb, -, -⟩ | ⟨-, q, hq, eq, hv, hm⟩
    · rw [e1, e2] at hb; cases hb
    · obtain rfl := ni_inj (by omega) (by omega) eq
      cases hv
      obtain ⟨a1, a2, a3, a4, a5, a6, a7, a8, a9⟩ := hc
      rw [lN_i] at p6 hm
      rw [← (hk.2.1.2.2 k hk1).1]
      exact lwR_ok (cs := (h, (nt, wy, lv, tx), (ne, nz, nw), (la, pa, na, so, fd, Wa), (nl, L, U), (fp, Z, N, upd C k (nI X)), (lg, K, Pa, pf), (ti, lc, lw, lf), ((cm, sg, len, at'), (fa, ro), cf, hl))) rfl ⟨p5 _ _ _ a1 (by simp), ntS_mono p5 (by simp) a2, nlE_w p5 (by simp) (by simp) (fun i hi => by
        obtain ⟨-, ⟨rn, A, B, w⟩, -⟩ := a3.2.2.1 i hi
        exact ⟨rn, A, B, lrT_mono p5 _ (by simp) w⟩) a3, p6, neS_mono p5 (by simp) a5, wyS_m p5 (by simp) a6, lvS_m p5 (by simp) a7, txS_mono p5 (by simp) a8, lsE_mono p5 (by simp) a9⟩ (lwC_I I0_k (lwC_least hk1 (by rw [nI_toInt (by omega)]; omega) hk)) ho1 t2 hm pk_us hf'
  · have hbad : ∃ rr : Int32, rr = r ∧ rr ≠ 0 ∧ rf3 (!wi p.toInt64 0 99) (!wi ta 0 100000) false = rr ∧ (!wi p.toInt64 0 99 || !wi ta 0 100000) = true := by
      rcases hpx with ⟨rfl, hb⟩ | ⟨rfl, hb, hb2⟩
      · rcases hE with ⟨-, hv⟩ | ⟨e, -⟩
        · cases hv
          rw [wi_bd99.mpr hb]
          exact ⟨1, rfl, by decide, rfl, rfl⟩
        · exact absurd e (by decide)
      · rcases hE with ⟨e, -⟩ | ⟨-, hv⟩
        · exact absurd e (by decide)
        · cases hv
          rw [bf_n wi_bd99 hb, wi_bdR.mpr hb2]
          exact ⟨2, rfl, by decide, rfl, rfl⟩
    obtain ⟨rr, rfl, hr0, hrf, hbd⟩ := hbad
    rcases h2 with ⟨-, -, hm⟩ | ⟨hb, -, -⟩
    · rw [hrf] at hm
      exact lwR_ref (cs := (h, (nt, wy, lv, tx), (ne, nz, nw), (la, pa, na, so, fd, Wa), (nl, L, U), (fp, Z, N, C), (lg, K, Pa, pf), (ti, lc, lw, lf), ((cm, sg, len, at'), (fa, ro), cf, hl))) hr0 rfl hc hk ho t2 hm
    · rw [hbd] at hb; cases hb
abbrev mwA (Ai : Nat → Nat → Int32) (nw : Nat) (l p : Int32) : Nat → Nat → Int32 := seqU (seqU Ai 16 (upd (Ai 16) nw l)) 17 (upd (Ai 17) nw p)
abbrev mwJ (Aj : Nat → Nat → Int64) (nw : Nat) (x y : Int64) : Nat → Nat → Int64 := seqJ (seqJ Aj 18 (vp_updL (Aj 18) nw x)) 19 (vp_updL (Aj 19) nw y)
theorem lr_lw_dl {q : Option Nat} {z : Int32 × Int32 × Int32} {x : lr_T} : (lr_lw q z x).2.2.2.2.1 = x.2.2.2.2.1 := rfl
theorem lwC_change {ne nz nw nl K len k s B D : Nat} {q : Option Nat} {L : Nat → lr_T} {Z : Nat → List (Int32 × Int32)} {N C : Nat → Int32} {pf : Nat → Nat → Int32} {cf I : Nat → Int32} {Ai : Nat → Nat → Int32} {Aj : Nat → Nat → Int64} {cn : Nat → Nat} (hkn : k < nl) (hs : s < 12) (hB : B ≤ 100000) (hD : D ≤ 20000) (hnw : nw < 100) (h : lwC ne nz nw nl L Z N C K pf len cf I Ai Aj cn) : lwC ne nz (nw + 1) nl (fun i => if i = k then lr_lw q (nI s, nI B, nI D) (L i) else L i) Z N C K pf len cf (upd (upd I 0 0) 15 (nI (nw + 1))) (mwA Ai nw (nI k) (nI s)) (mwJ Aj nw (lN B) (lN D)) cn := by
  obtain ⟨⟨w1, w2, w3, w4, w5⟩, ⟨d1, d2, d3⟩, h3, h4, h5, h6, h7⟩ := h
  have hnl := w1.2
  have eI : ∀ j, j ≠ 0 → j ≠ 15 → upd (upd I 0 0) 15 (nI (nw + 1)) j = I j := fun j a b => by rw [pk_un b, pk_un a]
  have eA : ∀ j, j ≠ 16 → j ≠ 17 → mwA Ai nw (nI k) (nI s) j = Ai j := fun j a b => by unfold mwA; rw [seqU_ne b, seqU_ne a]
  have eJ : ∀ j, j ≠ 18 → j ≠ 19 → mwJ Aj nw (lN B) (lN D) j = Aj j := fun j a b => by unfold mwJ; rw [seqJ_ne b, seqJ_ne a]
  refine ⟨⟨?_, ?_, ?_, ⟨pk_us, by omega⟩, fun l hl => ?_⟩, ⟨fun l hl => ?_, fun p hp => ?_, fun p hp => ?_⟩, ⟨?_, fun j hj => ?_, ?_⟩, ?_, ?_, ?_, fun i hi => ?_⟩
  · rw [eI 1 (by decide) (by decide)]; exact w1
  · rw [eI 7 (by decide) (by decide), eA 10 (by decide) (by decide)]; exact w2
  · rw [eI 11 (by decide) (by decide)]; exact w3
  · rw [eA 3 (by decide) (by decide), eA 4 (by decide) (by decide)]; exact w5 l hl
  · exact cpL_lw (lw := q) (l := k) hnw (by omega) (by omega) hs hB hD (d1 l hl)
  · exact cpZ_ag (eA 12 (by decide) (by decide)) (eA 14 (by decide) (by decide)) (eJ 13 (by decide) (by decide)) (d2 p hp)
  · rw [eA 20 (by decide) (by decide)]; exact d3 p hp
  · rw [eA 8 (by decide) (by decide)]; exact h3.1
  · show ∃ l, l < nl ∧ upd (Ai 16) nw (nI k) j = nI l
    by_cases e : j = nw
    · rw [e, pk_us]; exact ⟨k, hkn, rfl⟩
    · rw [pk_un e]; exact h3.2.1 j (by omega)
  · rw [eA 12 (by decide) (by decide), eJ 13 (by decide) (by decide)]; exact h3.2.2
  · rw [eI 22 (by decide) (by decide)]
    exact ⟨h4.1, h4.2.1, cpW_ag (eA 23 (by decide) (by decide)) (eJ 24 (by decide) (by decide)) (eA 25 (by decide) (by decide)) (eA 26 (by decide) (by decide)) (eA 31 (by decide) (by decide)) h4.2.2⟩
  · rw [eI 27 (by decide) (by decide), eA 28 (by decide) (by decide)]; exact h5
  · rw [eA 12 (by decide) (by decide)]; exact h6
  · by_cases hik : i = k
    · dsimp only
      rw [if_pos hik, lr_lw_dl]; exact h7 i hi
    · dsimp only
      rw [if_neg hik]; exact h7 i hi
theorem my_bI {a b : Int64} : my_b a b = true ↔ coR a b := by
  unfold my_b coR
  rw [Bool.or_eq_true, wi_bdR, wi_bdR]
theorem my_noneI {l s : Int32} {nl : Nat} {cn : Nat → Nat} {L : Nat → lr_T} (hn : nl ≤ 40) (hcn : ∀ k, k < nl → lr_n (L k) = cn k ∧ cn k ≤ 12) : my_none l s nl cn = true ↔ coI nl L l s := by
  unfold my_none coI
  rw [Bool.or_eq_true, wi_bdI (by omega)]
  constructor
  · rintro (h | h)
    · exact Or.inl h
    · by_cases hl : bdI l (nI nl)
      · exact Or.inl hl
      · obtain ⟨k, hk, rfl⟩ := bI_nI (b := nl) (by omega) hl
        rw [ni_cl (by omega), wi_bdI (by have := (hcn k hk).2; omega)] at h
        exact Or.inr ⟨k, hk, rfl, by rw [(hcn k hk).1]; exact h⟩
  · rintro (h | ⟨k, hk, rfl, h⟩)
    · exact Or.inl h
    · right
      rw [ni_cl (by omega), wi_bdI (by have := (hcn k hk).2; omega), ← (hcn k hk).1]
      exact h
theorem st_change {sa md mo out h nt wy lv tx ne nz nw la pa na so nl U lg K ti lc lw cm sg len at' : Nat} {fd fa ro x p r b : Int32} {ta tb : Int64} {Wa : Nat → Nat} {L : Nat → lr_T} {fp : Nat → Nat} {Z : Nat → List (Int32 × Int32)} {N C : Nat → Int32} {Pa : Nat → Nat} {pf : Nat → Nat → Int32} {lf cf : Nat → Int32} {hl : Nat → Nat} {M : Nat → Nat} {I : Nat → Int32} {Ai : Nat → Nat → Int32} {Aj : Nat → Nat → Int64} {cn : Nat → Nat} {f : Nat → Int64} {g g1 g2 : pz_H} (hc : clS sa g (h, (nt, wy, lv, tx), (ne, nz, nw), (la, pa, na, so, fd, Wa), (nl, L, U), (fp, Z, N, C), (lg, K, Pa, pf), (ti, lc, lw, lf), ((cm, sg, len, at'), (fa, ro), cf, hl))) (hk : lwC ne nz nw nl L Z N C K pf len cf I Ai Aj cn) (ho : g out = some ([17], ou_c f))
    (h1 : po_L_change sa md (((h, x, p, ta, tb), (nt, wy, lv, tx), (ne, nz, nw), (la, pa, na, so, fd, Wa), (nl, L, U)), out, f) [] g (some (.inl r)) g1) (h2 : po_X10_change (((x, p, ta, tb), nl, nw, cn), (mo, M, I, Ai, Aj)) [] g1 (some (.inl b)) g2) : lwR sa g2 h mo out M len r b.toInt64 := by
  obtain ⟨t2, h2⟩ := h2
  have hnl : nl ≤ 40 := hk.1.1.2
  have hcn : ∀ k, k < nl → lr_n (L k) = cn k ∧ cn k ≤ 12 := fun k hkn => ⟨(hk.2.1.1 k hkn).2.1, (hk.1.2.2.2.2 k hkn).2.1⟩
  have hmI := my_noneI (l := x) (s := p) hnl hcn
  rcases h1 with ⟨hr, y, g1', f', ⟨p1, p2, p3, k, s, B, D, hkn, rfl, hs, rfl, hB, rfl, hD, rfl, p4, p5, p6, q, p7⟩, ho1, hf', rfl⟩ | ⟨E, ⟨rfl, hpx⟩, hE⟩
  · cases hr
    cases p4
    rcases h2 with ⟨hb, -, -⟩ | ⟨-, hv, hm⟩
    · rw [bf_n hmI p1, bf_n my_bI p2, decide_eq_false (by omega)] at hb; cases hb
    · cases hv
      obtain ⟨a1, a2, a3, a4, a5, a6, a7, a8, a9⟩ := hc
      have := hcn k hkn
      exact lwR_ok (cs := (h, (nt, wy, lv, tx), (ne, nz, nw + 1), (la, pa, na, so, fd, Wa), (nl, (fun i => if i = k then lr_lw q (nI s, nI B, nI D) (L i) else L i), U), (fp, Z, N, C), (lg, K, Pa, pf), (ti, lc, lw, lf), ((cm, sg, len, at'), (fa, ro), cf, hl))) rfl ⟨p6, ntS_mono p5 (by simp) a2, p7, plS_mono p5 (by simp) a4, neS_mono p5 (by simp) a5, wyS_m p5 (by simp) a6, lvS_m p5 (by simp) a7, txS_mono p5 (by simp) a8, lsE_mono p5 (by simp) a9⟩ (lwC_change hkn (by omega) hB hD p3 hk) ho1 t2 hm (by rw [pk_un (by decide), pk_us]) hf'
  · have hbad : ∃ rr : Int32, rr = r ∧ rr ≠ 0 ∧ rf3 (my_none x p nl cn) (my_b ta tb) (decide (nw = 100)) = rr ∧ (my_none x p nl cn || (my_b ta tb || decide (nw = 100))) = true := by
      rcases hpx with ⟨rfl, hb⟩ | ⟨rfl, hb, hb2⟩ | ⟨rfl, hb, hb2, h100⟩
      · rcases hE with ⟨-, hv⟩ | ⟨e, -⟩ | ⟨e, -⟩
        · cases hv
          rw [hmI.mpr hb]
          exact ⟨1, rfl, by decide, rfl, rfl⟩
        · exact absurd e (by decide)
        · exact absurd e (by decide)
      · rcases hE with ⟨e, -⟩ | ⟨-, hv⟩ | ⟨e, -⟩
        · exact absurd e (by decide)
        · cases hv
          rw [bf_n hmI hb, my_bI.mpr hb2]
          exact ⟨2, rfl, by decide, rfl, rfl⟩
        · exact absurd e (by decide)
      · rcases hE with ⟨e, -⟩ | ⟨e, -⟩ | ⟨-, hv⟩
        · exact absurd e (by decide)
        · exact absurd e (by decide)
        · cases hv
          rw [bf_n hmI hb, bf_n my_bI hb2, decide_eq_true h100]
          exact ⟨3, rfl, by decide, rfl, rfl⟩
    obtain ⟨rr, rfl, hr0, hrf, hbd⟩ := hbad
    rcases h2 with ⟨-, -, hm⟩ | ⟨hb, -, -⟩
    · rw [hrf] at hm
      exact lwR_ref (cs := (h, (nt, wy, lv, tx), (ne, nz, nw), (la, pa, na, so, fd, Wa), (nl, L, U), (fp, Z, N, C), (lg, K, Pa, pf), (ti, lc, lw, lf), ((cm, sg, len, at'), (fa, ro), cf, hl))) hr0 rfl hc hk ho t2 hm
    · rw [hbd] at hb; cases hb
