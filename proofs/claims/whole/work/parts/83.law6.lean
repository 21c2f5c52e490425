/-! one call of the script: stop -/
theorem mo_asE {Ai : Nat → Nat → Int32} {l n : Nat} {p : Int32} {k : Nat} (h3 : k ≠ 3) (h4 : k ≠ 4) : mo_as Ai l n p k = Ai k := by
  unfold mo_as; rw [seqU_ne h3, seqU_ne h4]
theorem mo_ajE {Aj : Nat → Nat → Int64} {l n : Nat} {a b : Int64} {k : Nat} (h5 : k ≠ 5) (h6 : k ≠ 6) : mo_aj Aj l n a b k = Aj k := by
  unfold mo_aj; rw [seqJ_ne h6, seqJ_ne h5]
theorem lr_st_dl {p a b : Int32} {x : lr_T} : (lr_st p a b x).2.2.2.2.1 = x.2.2.2.2.1 := rfl
theorem lwC_stop {ne nz nw nl K len k P A B : Nat} {L : Nat → lr_T} {Z : Nat → List (Int32 × Int32)} {N C : Nat → Int32} {pf : Nat → Nat → Int32} {cf I : Nat → Int32} {Ai : Nat → Nat → Int32} {Aj : Nat → Nat → Int64} {cn : Nat → Nat} (hkn : k < nl) (hP : P < 100) (hA : A ≤ 259200) (hB : B ≤ 259200) (hc : cn k < 12) (h : lwC ne nz nw nl L Z N C K pf len cf I Ai Aj cn) : lwC ne nz nw nl (fun i => if i = k then lr_st (nI P) (nI A) (nI B) (L i) else L i) Z N C K pf len cf I (mo_as Ai k (cn k) (nI P)) (mo_aj Aj k (cn k) (lN A) (lN B)) (fun i => if i = k then cn i + 1 else cn i) := by
  obtain ⟨⟨w1, w2, w3, w4, w5⟩, ⟨d1, d2, d3⟩, h3, h4, h5, h6, h7⟩ := h
  refine ⟨⟨w1, ?_, w3, w4, fun l hl => ?_⟩, ⟨fun l hl => ?_, fun p hp => ?_, fun p hp => ?_⟩, ?_, ?_, ?_, ?_, fun i hi => ?_⟩
  · rw [mo_asE (by decide) (by decide)]; exact w2
  · obtain ⟨u1, u2, u3⟩ := w5 l hl
    have e3 : mo_as Ai k (cn k) (nI P) 3 = upd (Ai 3) k (nI (cn k + 1)) := rfl
    have e4 : mo_as Ai k (cn k) (nI P) 4 = upd (Ai 4) (12 * k + cn k) (nI P) := rfl
    rw [e3, e4]
    by_cases hlk : l = k
    · subst hlk
      dsimp only
      rw [pk_us, if_pos rfl]
      refine ⟨rfl, by omega, fun j hj => ?_⟩
      by_cases hj2 : j = cn l
      · rw [hj2, pk_us]; exact ⟨P, hP, rfl⟩
      · rw [pk_un (by omega)]; exact u3 j (by omega)
    · dsimp only
      rw [pk_un hlk, if_neg hlk]
      refine ⟨u1, u2, fun j hj => ?_⟩
      rw [pk_un (by omega)]; exact u3 j hj
  · have ha : (nI A).toInt = (lN A).toInt ∧ 0 ≤ (nI A).toInt ∧ (nI A).toInt ≤ 259200 := by rw [nI_toInt (by omega), lN_toInt (by omega)]; omega
    have hb : (nI B).toInt = (lN B).toInt ∧ 0 ≤ (nI B).toInt ∧ (nI B).toInt ≤ 259200 := by rw [nI_toInt (by omega), lN_toInt (by omega)]; omega
    by_cases hlk : l = k
    · subst hlk
      dsimp only
      rw [if_pos rfl, if_pos rfl]
      exact cpL_st hc hP ha hb (d1 l hl)
    · dsimp only
      rw [if_neg hlk, if_neg hlk]
      exact cpL_st' hc (w5 l hl).2.1 hlk (d1 l hl)
  · exact cpZ_ag (mo_asE (by decide) (by decide)) (mo_asE (by decide) (by decide)) (mo_ajE (by decide) (by decide)) (d2 p hp)
  · rw [mo_asE (by decide) (by decide)]; exact d3 p hp
  · exact cpU_ag (Nat.le_refl _) (mo_asE (by decide) (by decide)) (mo_asE (by decide) (by decide)) (mo_asE (by decide) (by decide)) (mo_ajE (by decide) (by decide)) h3
  · exact ⟨h4.1, h4.2.1, cpW_ag (mo_asE (by decide) (by decide)) (mo_ajE (by decide) (by decide)) (mo_asE (by decide) (by decide)) (mo_asE (by decide) (by decide)) (mo_asE (by decide) (by decide)) h4.2.2⟩
  · rw [mo_asE (by decide) (by decide)]; exact h5
  · rw [mo_asE (by decide) (by decide)]; exact h6
  · by_cases hik : i = k
    · dsimp only
      rw [if_pos hik, lr_st_dl]; exact h7 i hi
    · dsimp only
      rw [if_neg hik]; exact h7 i hi
theorem mx_noneI {l p : Int32} {nl : Nat} (hn : nl ≤ 40) : mx_none l p nl = true ↔ stI nl l p := by
  unfold mx_none stI
  rw [Bool.or_eq_true, wi_bdI (by omega), wi_bd99]
theorem mx_bI {a b : Int64} : mx_b a b = true ↔ stR a b := by
  unfold mx_b stR
  rw [Bool.or_eq_true, wi_bdR, wi_bdR]
theorem bf_n {b : Bool} {p : Prop} (h : b = true ↔ p) (hp : ¬ p) : b = false := by
  cases b
  · rfl
  · exact absurd (h.mp rfl) hp
theorem i64_eq {x : Int32} {y : Int64} (h : x.toInt = y.toInt) : x.toInt64 = y := by
  rw [i6_eq, Int32.toInt_toInt64]; exact h
/-- the last leaving of a line, in both -/
theorem lst_eq {Ai : Nat → Nat → Int32} {Aj : Nat → Nat → Int64} {ne nw l c A B : Nat} {x : lr_T} (hA : A ≤ 259200) (hB : B ≤ 259200) (h : cpL Ai Aj ne nw l c x) : (lN A < (lr_last x).toInt64 ∨ lN B < lN A) ↔ (lN B < lN A ∨ (0 < c ∧ lN A < Aj 6 (12 * l + c - 1))) := by
  obtain ⟨-, hn, hs, -⟩ := h
  unfold lr_last
  rw [hn]
  by_cases hc : c = 0
  · rw [if_pos hc]
    have : ¬ lN A < (0 : Int32).toInt64 := by
      rw [i6_lt, lN_toInt (by omega), Int32.toInt_toInt64, show (0 : Int32).toInt = 0 from rfl]; omega
    constructor
    · rintro (h | h)
      · exact absurd h this
      · exact Or.inl h
    · rintro (h | ⟨h, _⟩)
      · exact Or.inr h
      · omega
  · rw [if_neg hc, i64_eq (hs (c - 1) (by omega)).2.2.2.1, show 12 * l + (c - 1) = 12 * l + c - 1 by omega]
    constructor
    · rintro (h | h)
      · exact Or.inr ⟨by omega, h⟩
      · exact Or.inl h
    · rintro (h | ⟨_, h⟩)
      · exact Or.inr h
      · exact Or.inl h
theorem st_stop {sa md mo out h nt wy lv tx ne nz nw la pa na so nl U lg K ti lc lw cm sg len at' : Nat} {fd fa ro x p r b : Int32} {ta tb : Int64} {Wa : Nat → Nat} {L : Nat → lr_T} {fp : Nat → Nat} {Z : Nat → List (Int32 × Int32)} {N C : Nat → Int32} {Pa : Nat → Nat} {pf : Nat → Nat → Int32} {lf cf : Nat → Int32} {hl : Nat → Nat} {M : Nat → Nat} {I : Nat → Int32} {Ai : Nat → Nat → Int32} {Aj : Nat → Nat → Int64} {cn : Nat → Nat} {f : Nat → Int64} {g g1 g2 : pz_H} (hc : clS sa g (h, (nt, wy, lv, tx), (ne, nz, nw), (la, pa, na, so, fd, Wa), (nl, L, U), (fp, Z, N, C), (lg, K, Pa, pf), (ti, lc, lw, lf), ((cm, sg, len, at'), (fa, ro), cf, hl))) (hk : lwC ne nz nw nl L Z N C K pf len cf I Ai Aj cn) (ho : g out = some ([17], ou_c f))
    (h1 : po_L_stop sa md (((h, x, p, ta, tb), (nt, wy, lv, tx), (ne, nz, nw), (la, pa, na, so, fd, Wa), (nl, L, U)), out, f) [] g (some (.inl r)) g1) (h2 : po_X10_stop (((x, p, ta, tb), nl, cn), (mo, M, I, Ai, Aj)) [] g1 (some (.inl b)) g2) : lwR sa g2 h mo out M len r b.toInt64 := by
  obtain ⟨t2, h2⟩ := h2
  have hnl : nl ≤ 40 := hk.1.1.2
  have hcn : ∀ k, k < nl → lr_n (L k) = cn k := fun k hkn => (hk.2.1.1 k hkn).2.1
  rcases h1 with ⟨hr, y, g1', f', ⟨p1, p2, k, P, A, B, hkn, rfl, hP, rfl, hA, rfl, hB, rfl, hn12, p5⟩, ho1, hf', rfl⟩ | ⟨E, ⟨rfl, hpx⟩, hE⟩
  · cases hr
    have e1 : mx_none (nI k) (nI P) nl = false := bf_n (mx_noneI hnl) p1
    have e2 : mx_b (lN A) (lN B) = false := bf_n mx_bI p2
    have e3 : mx_c (nI k) (nI P) nl cn = false := by
      unfold mx_c
      rw [e1, ni_cl (by omega), decide_eq_false (by rw [← hcn k hkn]; omega)]
      rfl
    rcases h2 with ⟨hb, -, -⟩ | ⟨-, k', q, hk', ek, hq, eq, hc12, h2⟩
    · rw [e1, e2, e3] at hb; cases hb
    obtain rfl := ni_inj (by omega) (by omega) ek
    have hle := lst_eq hA hB (hk.2.1.1 k hkn)
    rcases p5 with ⟨q1, q2, q3⟩ | ⟨q1, q2, q3, q4⟩
    · cases q2
      subst q3
      rcases h2 with ⟨-, hv, hm⟩ | ⟨hno, -, -⟩
      · cases hv
        exact lwR_ok (cs := (h, (nt, wy, lv, tx), (ne, nz, nw), (la, pa, na, so, fd, Wa), (nl, L, U), (fp, Z, N, C), (lg, K, Pa, pf), (ti, lc, lw, lf), ((cm, sg, len, at'), (fa, ro), cf, hl))) rfl hc (lwC_I I0_k hk) ho1 t2 hm pk_us hf'
      · exact absurd (hle.mp q1) hno
    · cases q2
      rcases h2 with ⟨hno, -, -⟩ | ⟨-, hv, hm⟩
      · exact absurd (hle.mpr hno) q1
      · cases hv
        obtain ⟨a1, a2, a3, a4, a5, a6, a7, a8, a9⟩ := hc
        exact lwR_ok (cs := (h, (nt, wy, lv, tx), (ne, nz, nw), (la, pa, na, so, fd, Wa), (nl, (fun i => if i = k then lr_st (nI P) (nI A) (nI B) (L i) else L i), U), (fp, Z, N, C), (lg, K, Pa, pf), (ti, lc, lw, lf), ((cm, sg, len, at'), (fa, ro), cf, hl))) rfl ⟨q3 _ _ _ a1 (by simp [lnS]), ntS_mono q3 (by simp [lnS]) a2, q4, plS_mono q3 (by simp [lnS]) a4, neS_mono q3 (by simp [lnS]) a5, wyS_m q3 (by simp [lnS]) a6, lvS_m q3 (by simp [lnS]) a7, txS_mono q3 (by simp [lnS]) a8, lsE_mono q3 (by simp [lnS]) a9⟩ (lwC_I I0_k (lwC_stop hkn hP hA hB (by rw [← hcn k hkn]; exact hn12) hk)) ho1 t2 hm pk_us hf'
  · have hbad : ∃ rr : Int32, rr = r ∧ rr ≠ 0 ∧ rf3 (mx_none x p nl) (mx_b ta tb) (mx_c x p nl cn) = rr ∧ (mx_none x p nl || (mx_b ta tb || mx_c x p nl cn)) = true := by
      rcases hpx with ⟨rfl, hb⟩ | ⟨rfl, hb, hb2⟩ | ⟨rfl, hb, hb2, k, hkn, rfl, h12⟩
      · rcases hE with ⟨-, hv⟩ | ⟨e, -⟩ | ⟨e, -⟩
        · cases hv
          rw [(mx_noneI hnl).mpr hb]
          exact ⟨1, rfl, by decide, rfl, rfl⟩
        · exact absurd e (by decide)
        · exact absurd e (by decide)
      · rcases hE with ⟨e, -⟩ | ⟨-, hv⟩ | ⟨e, -⟩
        · exact absurd e (by decide)
        · cases hv
          rw [bf_n (mx_noneI hnl) hb, mx_bI.mpr hb2]
          exact ⟨2, rfl, by decide, rfl, rfl⟩
        · exact absurd e (by decide)
      · rcases hE with ⟨e, -⟩ | ⟨e, -⟩ | ⟨-, hv⟩
        · exact absurd e (by decide)
        · exact absurd e (by decide)
        · cases hv
          have e3 : mx_c (nI k) p nl cn = true := by
            unfold mx_c
            rw [bf_n (mx_noneI hnl) hb, ni_cl (by omega), decide_eq_true (by rw [← hcn k hkn]; exact h12)]
            rfl
          rw [bf_n (mx_noneI hnl) hb, bf_n mx_bI hb2, e3]
          exact ⟨3, rfl, by decide, rfl, rfl⟩
    obtain ⟨rr, rfl, hr0, hrf, hbd⟩ := hbad
    rcases h2 with ⟨-, -, hm⟩ | ⟨hb, -, -⟩
    · rw [hrf] at hm
      exact lwR_ref (cs := (h, (nt, wy, lv, tx), (ne, nz, nw), (la, pa, na, so, fd, Wa), (nl, L, U), (fp, Z, N, C), (lg, K, Pa, pf), (ti, lc, lw, lf), ((cm, sg, len, at'), (fa, ro), cf, hl))) hr0 rfl hc hk ho t2 hm
    · rw [hbd] at hb; cases hb
