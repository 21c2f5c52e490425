/-! one call of the script: zone -/
theorem mzA_ne {Ai : Nat → Nat → Int32} {a : Nat} {p m : Int32} {k : Nat} (h12 : k ≠ 12) (h14 : k ≠ 14) : mzA Ai a p m k = Ai k := by
  unfold mzA; rw [seqU_ne h14, seqU_ne h12]
theorem mzJ_ne {Aj : Nat → Nat → Int64} {a : Nat} {f : Int64} {k : Nat} (h13 : k ≠ 13) : mzJ Aj a f k = Aj k := by
  unfold mzJ; rw [seqJ_ne h13]
theorem lwC_zone {ne nz nw nl K len k F at' : Nat} {x : Int32} {L : Nat → lr_T} {Z : Nat → List (Int32 × Int32)} {N N' C : Nat → Int32} {pf : Nat → Nat → Int32} {cf I : Nat → Int32} {Ai : Nat → Nat → Int32} {Aj : Nat → Nat → Int64} {cn : Nat → Nat} (hk : k < 100) (hF : F ≤ 2000000000) (hx : -900 ≤ x.toInt ∧ x.toInt ≤ 900) (hat : at' = mz_a Ai Aj (nI k) (lN F) nz) (hne : mf_n at' nz ≤ 100) (hN : ∀ p, p < 100 → N' p = if p = k ∧ at' = nz then N p + 1 else N p) (h : lwC ne nz nw nl L Z N C K pf len cf I Ai Aj cn) : lwC ne (mf_n at' nz) nw nl L (zU Z k (z_put (nI F) x (Z k))) N' C K pf len cf (upd (upd I 0 0) 11 (nI (mf_n at' nz))) (mzA Ai at' (nI k) x) (mzJ Aj at' (lN F)) cn := by
  obtain ⟨⟨w1, w2, w3, w4, w5⟩, ⟨d1, d2, d3⟩, h3, h4, h5, h6, h7⟩ := h
  have eI : ∀ j, j ≠ 0 → j ≠ 11 → upd (upd I 0 0) 11 (nI (mf_n at' nz)) j = I j := fun j a b => by rw [pk_un b, pk_un a]
  refine ⟨⟨?_, ?_, ⟨pk_us, hne⟩, ?_, fun l hl => ?_⟩, ⟨fun l hl => ?_, fun p hp => ?_, fun p hp => ?_⟩, ⟨?_, ?_, ?_⟩, ?_, ?_, fun p hp => ?_, h7⟩
  · rw [eI 1 (by decide) (by decide)]; exact w1
  · rw [eI 7 (by decide) (by decide), mzA_ne (by decide) (by decide)]; exact w2
  · rw [eI 15 (by decide) (by decide)]; exact w4
  · rw [mzA_ne (by decide) (by decide), mzA_ne (by decide) (by decide)]; exact w5 l hl
  · exact cpL_ag (w5 l hl).2.1 (by rw [mzA_ne (by decide) (by decide)]) (fun j _ => by rw [mzA_ne (by decide) (by decide)]) (fun j _ => by rw [mzJ_ne (by decide)]) (fun j _ => by rw [mzJ_ne (by decide)]) (mzA_ne (by decide) (by decide)) (mzJ_ne (by decide)) (mzA_ne (by decide) (by decide)) (mzA_ne (by decide) (by decide)) (mzA_ne (by decide) (by decide)) (mzJ_ne (by decide)) (mzJ_ne (by decide)) (d1 l hl)
  · have := cpZ_put (p := k) (f := F) (m := x) hk hp hF hx h3.2.2 (d2 p hp)
    rw [← hat] at this
    unfold zU
    by_cases e : p = k
    · rw [if_pos e] at this ⊢
      rw [← e]; rw [← e] at this; exact this
    · rw [if_neg e] at this ⊢; exact this
  · rw [mzA_ne (by decide) (by decide)]; exact d3 p hp
  · rw [mzA_ne (by decide) (by decide)]; exact h3.1
  · rw [mzA_ne (by decide) (by decide)]; exact h3.2.1
  · have := cpU_z (p := nI k) (m := x) (f := lN F) h3.2.2
    rw [← hat] at this
    exact this
  · rw [eI 22 (by decide) (by decide)]
    exact ⟨h4.1, h4.2.1, cpW_ag (mzA_ne (by decide) (by decide)) (mzJ_ne (by decide)) (mzA_ne (by decide) (by decide)) (mzA_ne (by decide) (by decide)) (mzA_ne (by decide) (by decide)) h4.2.2⟩
  · rw [eI 27 (by decide) (by decide), mzA_ne (by decide) (by decide)]; exact h5
  · have := mz_cput (Ai := Ai) (Aj := Aj) (nz := nz) (p := nI k) (p' := nI p) (f := lN F)
    rw [← hat] at this
    show N' p = nI (mz_c (upd (Ai 12) at' (nI k)) (nI p) (mf_n at' nz))
    rw [this, hN p hp, h6 p hp]
    by_cases e : p = k ∧ at' = nz
    · rw [if_pos e, if_pos ⟨by rw [e.1], e.2⟩, nI_1]
    · rw [if_neg e, if_neg (fun e2 => e ⟨ni_inj (by omega) (by omega) e2.1, e2.2⟩)]
theorem mz_bI {f : Int64} {x : Int32} : mz_b f x = true ↔ zb2 f x := by
  unfold mz_b zb2
  rw [Bool.or_eq_true, wi_bdR, wi_bdR]
theorem z_put_t {f m : Int32} {l : List (Int32 × Int32)} (h : z_get f l = true) : z_put f m l = z_set f m l := if_pos h
theorem z_put_f {f m : Int32} {l : List (Int32 × Int32)} (h : z_get f l = false) : z_put f m l = z_ins f m l := if_neg (by rw [h]; decide)
theorem st_zone {sa md mo out h nt wy lv tx ne nz nw la pa na so nl U lg K ti lc lw cm sg len at' : Nat} {fd fa ro p x r b : Int32} {ta : Int64} {Wa : Nat → Nat} {L : Nat → lr_T} {fp : Nat → Nat} {Z : Nat → List (Int32 × Int32)} {N C : Nat → Int32} {Pa : Nat → Nat} {pf : Nat → Nat → Int32} {lf cf : Nat → Int32} {hl : Nat → Nat} {M : Nat → Nat} {I : Nat → Int32} {Ai : Nat → Nat → Int32} {Aj : Nat → Nat → Int64} {cn : Nat → Nat} {f : Nat → Int64} {g g1 g2 : pz_H} (hc : clS sa g (h, (nt, wy, lv, tx), (ne, nz, nw), (la, pa, na, so, fd, Wa), (nl, L, U), (fp, Z, N, C), (lg, K, Pa, pf), (ti, lc, lw, lf), ((cm, sg, len, at'), (fa, ro), cf, hl))) (hk : lwC ne nz nw nl L Z N C K pf len cf I Ai Aj cn) (ho : g out = some ([17], ou_c f))
    (h1 : po_L_zone sa md (((h, p, ta, x), (nt, wy, lv, tx), (ne, nz, nw), (la, pa, na, so, fd, Wa), (fp, Z, N, C)), out, f) [] g (some (.inl r)) g1) (h2 : po_X10_zone (((p, ta, x), nz), (mo, M, I, Ai, Aj)) [] g1 (some (.inl b)) g2) : lwR sa g2 h mo out M len r b.toInt64 := by
  obtain ⟨t2, h2⟩ := h2
  have hnz : nz ≤ 100 := hk.1.2.2.1.2
  rcases h1 with ⟨hr, y, g1', f', ⟨p1, k, F, hk1, rfl, hF, rfl, p5, p6⟩, ho1, hf', rfl⟩ | ⟨E, ⟨rfl, hpx⟩, hE⟩
  · cases hr
    have hgz := cpZ_get hF (hk.2.1.2.1 k hk1)
    have hsp := mz_at (Ai := Ai) (Aj := Aj) (nz := nz) (p := nI k) (f := lN F)
    have hcp := mz_cput (Ai := Ai) (Aj := Aj) (nz := nz) (p := nI k) (p' := nI k) (f := lN F)
    have hx : -900 ≤ x.toInt ∧ x.toInt ≤ 900 := by
      have hb : ¬ (x.toInt64 < -900 ∨ 900 < x.toInt64) := fun e => p1 (Or.inr e)
      rw [i6_lt, i6_lt, Int32.toInt_toInt64, show (-900 : Int64).toInt = -900 from rfl, show (900 : Int64).toInt = 900 from rfl] at hb
      omega
    generalize hat : mz_a Ai Aj (nI k) (lN F) nz = at2 at *
    have e1 : (!wi (nI k).toInt64 0 99) = false := bf_n wi_bd99 (fun e => by
      rcases e with e | e
      · rw [i3_lt, nI_toInt (by omega), show (0 : Int32).toInt = 0 from rfl] at e; omega
      · rw [i3_le, nI_toInt (by omega), show (100 : Int32).toInt = 100 from rfl] at e; omega)
    have e2 : mz_b (lN F) x = false := bf_n mz_bI p1
    obtain ⟨a1, a2, a3, a4, a5, a6, a7, a8, a9⟩ := hc
    have hnk := hk.2.2.2.2.2.1 k hk1
    have frame : ∀ (nz' : Nat) (Z' : Nat → List (Int32 × Int32)) (N' : Nat → Int32), ltS g1' h nt wy lv tx ne nz' nw → plS g1' pa fp Z' N' C → clS sa g1' (h, (nt, wy, lv, tx), (ne, nz', nw), (la, pa, na, so, fd, Wa), (nl, L, U), (fp, Z', N', C), (lg, K, Pa, pf), (ti, lc, lw, lf), ((cm, sg, len, at'), (fa, ro), cf, hl)) := fun nz' Z' N' q1 q2 => ⟨q1, ntS_mono p5 (by simp) a2, nlE_w p5 (by simp) (by simp) (fun i hi => by
      obtain ⟨-, ⟨rn, A, B, w⟩, -⟩ := a3.2.2.1 i hi
      exact ⟨rn, A, B, lrT_mono p5 _ (by simp) w⟩) a3, q2, neS_mono p5 (by simp) a5, wyS_m p5 (by simp) a6, lvS_m p5 (by simp) a7, txS_mono p5 (by simp) a8, lsE_mono p5 (by simp) a9⟩
    rcases p6 with ⟨q1, q2, q3, q4⟩ | ⟨q1, q0, q2, q3, q4⟩
    · cases q2
      have hlt := hgz.mp q1
      have e3 : mf_n at2 nz = nz := by rcases hsp with ⟨-, s, -⟩ | ⟨s, -⟩; exact s; omega
      rcases h2 with ⟨hb, -, -⟩ | ⟨-, hv, hm⟩
      · rw [e1, e2, decide_eq_false (by omega)] at hb; cases hb
      · cases hv
        rw [hcp, if_neg (by omega), ← hnk]
        rw [← z_put_t (m := x) q1] at q4
        refine lwR_ok (cs := (h, (nt, wy, lv, tx), (ne, mf_n at2 nz, nw), (la, pa, na, so, fd, Wa), (nl, L, U), (fp, zU Z k (z_put (nI F) x (Z k)), upd N k (N k), C), (lg, K, Pa, pf), (ti, lc, lw, lf), ((cm, sg, len, at'), (fa, ro), cf, hl))) rfl (frame _ _ _ (by rw [e3]; exact q3) q4) (lwC_zone hk1 hF hx hat.symm (by omega) (fun p' hp' => ?_) hk) ho1 t2 hm (by rw [pk_un (by decide), pk_us]) hf'
        rw [if_neg (by omega)]
        by_cases e : p' = k
        · rw [e, pk_us]
        · rw [pk_un e]
    · cases q2
      have hnlt : ¬ at2 < nz := fun e => by rw [hgz.mpr e] at q1; cases q1
      have e3 : mf_n at2 nz = nz + 1 ∧ at2 = nz := by rcases hsp with ⟨s, -⟩ | ⟨s, s2, -⟩; omega; exact ⟨s2, s⟩
      rcases h2 with ⟨hb, -, -⟩ | ⟨-, hv, hm⟩
      · rw [e1, e2, decide_eq_false (by omega)] at hb; cases hb
      · cases hv
        rw [hcp, if_pos ⟨rfl, e3.2⟩, ← nI_1, ← hnk]
        rw [← z_put_f (m := x) q1] at q4
        refine lwR_ok (cs := (h, (nt, wy, lv, tx), (ne, mf_n at2 nz, nw), (la, pa, na, so, fd, Wa), (nl, L, U), (fp, zU Z k (z_put (nI F) x (Z k)), upd N k (N k + 1), C), (lg, K, Pa, pf), (ti, lc, lw, lf), ((cm, sg, len, at'), (fa, ro), cf, hl))) rfl (frame _ _ _ (by rw [e3.1]; exact q3) q4) (lwC_zone hk1 hF hx hat.symm (by omega) (fun p' hp' => ?_) hk) ho1 t2 hm (by rw [pk_un (by decide), pk_us]) hf'
        by_cases e : p' = k
        · rw [e, pk_us, if_pos ⟨rfl, e3.2⟩]
        · rw [pk_un e, if_neg (fun e2 => e e2.1)]
  · have hbad : ∃ rr : Int32, rr = r ∧ rr ≠ 0 ∧ rf3 (!wi p.toInt64 0 99) (mz_b ta x) (decide (mz_a Ai Aj p ta nz = 100)) = rr ∧ (!wi p.toInt64 0 99 || (mz_b ta x || decide (mz_a Ai Aj p ta nz = 100))) = true := by
      rcases hpx with ⟨rfl, hb⟩ | ⟨rfl, hb, hb2⟩ | ⟨rfl, hb, hb2, h100, k, F, hk1, rfl, hF, rfl, hg0⟩
      · rcases hE with ⟨-, hv⟩ | ⟨e, -⟩ | ⟨e, -⟩
        · cases hv
          rw [wi_bd99.mpr hb]
          exact ⟨1, rfl, by decide, rfl, rfl⟩
        · exact absurd e (by decide)
        · exact absurd e (by decide)
      · rcases hE with ⟨e, -⟩ | ⟨-, hv⟩ | ⟨e, -⟩
        · exact absurd e (by decide)
        · cases hv
          rw [bf_n wi_bd99 hb, mz_bI.mpr hb2]
          exact ⟨2, rfl, by decide, rfl, rfl⟩
        · exact absurd e (by decide)
      · rcases hE with ⟨e, -⟩ | ⟨e, -⟩ | ⟨-, hv⟩
        · exact absurd e (by decide)
        · exact absurd e (by decide)
        · cases hv
          have e3 : mz_a Ai Aj (nI k) (lN F) nz = 100 := by
            have hgz := cpZ_get hF (hk.2.1.2.1 k hk1)
            rcases mz_at (Ai := Ai) (Aj := Aj) (nz := nz) (p := nI k) (f := lN F) with ⟨s, -⟩ | ⟨s, -⟩
            · rw [hgz.mpr s] at hg0; cases hg0
            · omega
          rw [bf_n wi_bd99 hb, bf_n mz_bI hb2, decide_eq_true e3]
          exact ⟨3, rfl, by decide, rfl, rfl⟩
    obtain ⟨rr, rfl, hr0, hrf, hbd⟩ := hbad
    rcases h2 with ⟨-, -, hm⟩ | ⟨hb, -, -⟩
    · rw [hrf] at hm
      exact lwR_ref (cs := (h, (nt, wy, lv, tx), (ne, nz, nw), (la, pa, na, so, fd, Wa), (nl, L, U), (fp, Z, N, C), (lg, K, Pa, pf), (ti, lc, lw, lf), ((cm, sg, len, at'), (fa, ro), cf, hl))) hr0 rfl hc hk ho t2 hm
    · rw [hbd] at hb; cases hb
