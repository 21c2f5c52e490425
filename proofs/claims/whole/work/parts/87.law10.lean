/-! one call of the script: step, days, sign -/
theorem st_step {sa md mo out h nt wy lv tx ne nz nw la pa na so nl U lg K ti lc lw cm sg len at' : Nat} {fd fa ro i w r b : Int32} {Wa : Nat → Nat} {L : Nat → lr_T} {fp : Nat → Nat} {Z : Nat → List (Int32 × Int32)} {N C : Nat → Int32} {Pa : Nat → Nat} {pf : Nat → Nat → Int32} {lf cf : Nat → Int32} {hl : Nat → Nat} {M : Nat → Nat} {I : Nat → Int32} {Ai : Nat → Nat → Int32} {Aj : Nat → Nat → Int64} {cn : Nat → Nat} {f : Nat → Int64} {g g1 g2 : pz_H} (hc : clS sa g (h, (nt, wy, lv, tx), (ne, nz, nw), (la, pa, na, so, fd, Wa), (nl, L, U), (fp, Z, N, C), (lg, K, Pa, pf), (ti, lc, lw, lf), ((cm, sg, len, at'), (fa, ro), cf, hl))) (hk : lwC ne nz nw nl L Z N C K pf len cf I Ai Aj cn) (ho : g out = some ([17], ou_c f))
    (h1 : po_L_step sa md (((h, i, w), (nt, wy, lv, tx), (ne, nz, nw), (lg, K, Pa, pf)), out, f) [] g (some (.inl r)) g1) (h2 : po_X10_step ((i, w, K), (mo, M, I, Ai, Aj)) [] g1 (some (.inl b)) g2) : lwR sa g2 h mo out M len r b.toInt64 := by
  obtain ⟨t2, h2⟩ := h2
  have hK6 : K ≤ 6 := hk.2.2.2.1.2.1
  have hW := hk.2.2.2.1.2.2
  rcases h1 with ⟨hr, y, g1', f', ⟨rfl, p1, p2⟩, ho1, hf', rfl⟩ | ⟨E, ⟨rfl, rfl, hb⟩, hE⟩
  · cases hr
    cases p2
    have ew : wi w.toInt64 0 5 = true := by
      have := wi_n.mpr p1
      cases hw : wi w.toInt64 0 5
      · rw [hw] at this; cases this
      · rfl
    rcases h2 with ⟨hb, -, -⟩ | ⟨-, hm, hv⟩
    · rw [ew] at hb; cases hb
    · have hb : (if i < 0 ∨ nI K ≤ i then -1 else pf i.toNatClampNeg w.toNatClampNeg) = b := by
        rcases hv with ⟨h0, hv⟩ | ⟨k, x, hkK, hx, rfl, rfl, hv⟩
        · cases hv
          have : i < 0 ∨ nI K ≤ i := (wi_bdI (by omega)).mp (by rw [h0]; rfl)
          rw [if_pos this]
        · cases hv
          have hn : ¬ (nI k < 0 ∨ nI K ≤ nI k) := fun e => by
            rcases e with e | e
            · rw [i3_lt, nI_toInt (by omega), show (0 : Int32).toInt = 0 from rfl] at e; omega
            · have := (ni_le (by omega) (by omega)).mp e; omega
          rw [if_neg hn, ni_cl (by omega), ni_cl (by omega)]
          exact hW k x hkK (by omega)
      exact lwR_ok (cs := (h, (nt, wy, lv, tx), (ne, nz, nw), (la, pa, na, so, fd, Wa), (nl, L, U), (fp, Z, N, C), (lg, K, Pa, pf), (ti, lc, lw, lf), ((cm, sg, len, at'), (fa, ro), cf, hl))) rfl hc (lwC_I I0_k hk) ho1 t2 hm pk_us (by rw [hf', hb])
  · obtain ⟨-, hv⟩ := hE
    cases hv
    have ew : wi w.toInt64 0 5 = false := by
      have := wi_bdR.mpr hb
      cases hw : wi w.toInt64 0 5
      · rfl
      · rw [hw] at this; cases this
    rcases h2 with ⟨-, -, hm⟩ | ⟨hb, -⟩
    · exact lwR_ref (cs := (h, (nt, wy, lv, tx), (ne, nz, nw), (la, pa, na, so, fd, Wa), (nl, L, U), (fp, Z, N, C), (lg, K, Pa, pf), (ti, lc, lw, lf), ((cm, sg, len, at'), (fa, ro), cf, hl))) (by decide) rfl hc hk ho t2 hm
    · rw [ew] at hb; cases hb
theorem wi_112 {m : Int32} : wi m.toInt64 1 12 = true ↔ ¬ (m < 1 ∨ 12 < m) := by
  have h := wi_bdR (v := m.toInt64) (a := 1) (b := 12)
  have e : bdR m.toInt64 1 12 ↔ (m < 1 ∨ 12 < m) := by
    unfold bdR
    rw [i6_lt, i6_lt, i3_lt, i3_lt, Int32.toInt_toInt64]
    exact Iff.rfl
  rw [← e, ← h]
  cases wi m.toInt64 1 12 <;> simp
theorem st_days {sa md mo out h len : Nat} {cs : cs_T} {m y r b : Int32} {M : Nat → Nat} {I : Nat → Int32} {Ai : Nat → Nat → Int32} {Aj : Nat → Nat → Int64} {cn : Nat → Nat} {f : Nat → Int64} {g g1 g2 : pz_H} (hl : cs.2.2.2.2.2.2.2.2.1.2.2.1 = len) (hc : clS sa g cs) (hk : lwK cs I Ai Aj cn) (ho : g out = some ([17], ou_c f))
    (h1 : po_L_days sa md ((h, m, y), out, f) [] g (some (.inl r)) g1) (h2 : po_X10_days ((m, y), (mo, M, I, Ai, Aj)) [] g1 (some (.inl b)) g2) : lwR sa g2 cs.1 mo out M len r b.toInt64 := by
  obtain ⟨t2, h2⟩ := h2
  rcases h1 with ⟨hr, z, g1', f', ⟨rfl, p1, p2⟩, ho1, hf', rfl⟩ | ⟨E, ⟨rfl, rfl, hb⟩, hE⟩
  · cases hr
    cases p2
    rcases h2 with ⟨hb, -, -⟩ | ⟨-, hv, hm⟩
    · rw [wi_112.mpr p1] at hb; cases hb
    · cases hv
      exact lwR_ok hl hc (lwK_I I0_k hk) ho1 t2 hm pk_us hf'
  · obtain ⟨-, hv⟩ := hE
    cases hv
    rcases h2 with ⟨-, -, hm⟩ | ⟨hb2, -⟩
    · exact lwR_ref (by decide) hl hc hk ho t2 hm
    · exact absurd hb (wi_112.mp hb2)
theorem lwC_sign {ne nz nw nl K len : Nat} {x : Int32} {L : Nat → lr_T} {Z : Nat → List (Int32 × Int32)} {N C : Nat → Int32} {pf : Nat → Nat → Int32} {cf I : Nat → Int32} {Ai : Nat → Nat → Int32} {Aj : Nat → Nat → Int64} {cn : Nat → Nat} (hlen : len < 500) (h : lwC ne nz nw nl L Z N C K pf len cf I Ai Aj cn) : lwC ne nz nw nl L Z N C K pf (len + 1) (upd cf len x) (upd (upd I 0 0) 27 (nI (len + 1))) (seqU Ai 28 (upd (Ai 28) len x)) Aj cn := by
  obtain ⟨⟨w1, w2, w3, w4, w5⟩, ⟨d1, d2, d3⟩, h3, h4, h5, h6, h7⟩ := h
  have eI : ∀ j, j ≠ 0 → j ≠ 27 → upd (upd I 0 0) 27 (nI (len + 1)) j = I j := fun j a b => by rw [pk_un b, pk_un a]
  have eA : ∀ j, j ≠ 28 → seqU Ai 28 (upd (Ai 28) len x) j = Ai j := fun j a => by rw [seqU_ne a]
  have e28 : seqU Ai 28 (upd (Ai 28) len x) 28 = upd (Ai 28) len x := rfl
  generalize seqU Ai 28 (upd (Ai 28) len x) = A' at *
  refine ⟨⟨?_, ?_, ?_, ?_, fun l hl => ?_⟩, ⟨fun l hl => ?_, fun p hp => ?_, fun p hp => ?_⟩, ?_, ?_, ⟨pk_us, by omega, ?_⟩, ?_, h7⟩
  · rw [eI 1 (by decide) (by decide)]; exact w1
  · rw [eI 7 (by decide) (by decide), eA 10 (by decide)]; exact w2
  · rw [eI 11 (by decide) (by decide)]; exact w3
  · rw [eI 15 (by decide) (by decide)]; exact w4
  · rw [eA 3 (by decide), eA 4 (by decide)]; exact w5 l hl
  · exact cpL_ag (w5 l hl).2.1 (by rw [eA 2 (by decide)]) (fun j _ => by rw [eA 4 (by decide)]) (fun _ _ => rfl) (fun _ _ => rfl) (eA 8 (by decide)) rfl (eA 10 (by decide)) (eA 16 (by decide)) (eA 17 (by decide)) rfl rfl (d1 l hl)
  · exact cpZ_ag (eA 12 (by decide)) (eA 14 (by decide)) rfl (d2 p hp)
  · rw [eA 20 (by decide)]; exact d3 p hp
  · exact cpU_ag (Nat.le_refl _) (eA 8 (by decide)) (eA 16 (by decide)) (eA 12 (by decide)) rfl h3
  · rw [eI 22 (by decide) (by decide)]
    exact ⟨h4.1, h4.2.1, cpW_ag (eA 23 (by decide)) rfl (eA 25 (by decide)) (eA 26 (by decide)) (eA 31 (by decide)) h4.2.2⟩
  · rw [e28, h5.2.2]
  · rw [eA 12 (by decide)]; exact h6
theorem st_sign {sa md mo out h nt wy lv tx ne nz nw la pa na so nl U lg K ti lc lw cm sg len at' : Nat} {fd fa ro x r : Int32} {Wa : Nat → Nat} {L : Nat → lr_T} {fp : Nat → Nat} {Z : Nat → List (Int32 × Int32)} {N C : Nat → Int32} {Pa : Nat → Nat} {pf : Nat → Nat → Int32} {lf cf : Nat → Int32} {hl : Nat → Nat} {M : Nat → Nat} {I : Nat → Int32} {Ai : Nat → Nat → Int32} {Aj : Nat → Nat → Int64} {cn : Nat → Nat} {f : Nat → Int64} {g g1 g2 : pz_H} (hc : clS sa g (h, (nt, wy, lv, tx), (ne, nz, nw), (la, pa, na, so, fd, Wa), (nl, L, U), (fp, Z, N, C), (lg, K, Pa, pf), (ti, lc, lw, lf), ((cm, sg, len, at'), (fa, ro), cf, hl))) (hk : lwC ne nz nw nl L Z N C K pf len cf I Ai Aj cn) (ho : g out = some ([17], ou_c f))
    (h1 : po_L_sign sa md ((h, x), (nt, wy, lv, tx), (ne, nz, nw), (cm, sg, len, at'), (fa, ro), cf) [] g (some (.inl r)) g1) (h2 : po_X10_sign ((x, len), (mo, M, I, Ai, Aj)) [] g1 none g2) : ∃ len' b, len' ≤ len + 1 ∧ lwR sa g2 h mo out M len' r b := by
  obtain ⟨-, t2, h2⟩ := h2
  rcases h1 with ⟨hr, ⟨-, p1, p2, p5, p6⟩⟩ | ⟨E, ⟨rfl, hpx⟩, hE⟩
  · cases hr
    rcases h2 with ⟨hb, -⟩ | ⟨-, hm⟩
    · rw [wi_n.mpr p1, decide_eq_false (by omega)] at hb; cases hb
    · obtain ⟨a1, a2, a3, a4, a5, a6, a7, a8, a9⟩ := hc
      have T : hg (fun b => (b = [4] ∨ b = [16]) ∨ moL b) g g2 := hg_tr (hg_mono p5 (fun b hb => Or.inl hb)) (hg_mono t2 (fun b hb => Or.inr hb))
      have ho2 : g2 out = some ([17], ou_c f) := T _ _ _ ho (by simp [moL])
      refine ⟨len + 1, f 0, Nat.le_refl _, _, f, hm.1, by rw [pk_un (by decide), pk_us], ho2, fun _ => rfl, (h, (nt, wy, lv, tx), (ne, nz, nw), (la, pa, na, so, fd, Wa), (nl, L, U), (fp, Z, N, C), (lg, K, Pa, pf), (ti, lc, lw, lf), ((cm, sg, len + 1, at'), (fa, ro), upd cf len x, hl)), _, _, _, cn, f, rfl, rfl, ?_, hm, lwC_sign p2 hk, ho2⟩
      have t2' : hg mdX g1 g2 := hg_mono t2 (fun b hb => Or.inr hb)
      refine clS_mdX t2' ⟨p5 _ _ _ a1 (by simp), ntS_mono p5 (by simp) a2, nlE_w p5 (by simp) (by simp) (fun i hi => by
        obtain ⟨-, ⟨rn, A, B, w⟩, -⟩ := a3.2.2.1 i hi
        exact ⟨rn, A, B, lrT_mono p5 _ (by simp) w⟩) a3, plS_mono p5 (by simp) a4, neS_mono p5 (by simp) a5, wyS_m p5 (by simp) a6, lvS_m p5 (by simp) a7, p6, lsE_mono p5 (by simp) a9⟩
  · have hbad : ∃ rr : Int32, rr = r ∧ rr ≠ 0 ∧ rf3 (!wi x.toInt64 32 126) (decide (len = 500)) false = rr ∧ (!wi x.toInt64 32 126 || decide (len = 500)) = true := by
      rcases hpx with ⟨rfl, hb⟩ | ⟨rfl, hb, h40⟩
      · rcases hE with ⟨-, hv⟩ | ⟨e, -⟩
        · cases hv
          rw [wi_bdR.mpr hb]
          exact ⟨1, rfl, by decide, rfl, rfl⟩
        · exact absurd e (by decide)
      · rcases hE with ⟨e, -⟩ | ⟨-, hv⟩
        · exact absurd e (by decide)
        · cases hv
          rw [wi_n.mpr hb, decide_eq_true h40]
          exact ⟨2, rfl, by decide, rfl, rfl⟩
    obtain ⟨rr, rfl, hr0, hrf, hbd⟩ := hbad
    rcases h2 with ⟨-, hm⟩ | ⟨hb, -⟩
    · rw [hrf] at hm
      exact ⟨len, 0, by omega, lwR_ref (cs := (h, (nt, wy, lv, tx), (ne, nz, nw), (la, pa, na, so, fd, Wa), (nl, L, U), (fp, Z, N, C), (lg, K, Pa, pf), (ti, lc, lw, lf), ((cm, sg, len, at'), (fa, ro), cf, hl))) hr0 rfl hc hk ho t2 hm⟩
    · rw [hbd] at hb; cases hb
