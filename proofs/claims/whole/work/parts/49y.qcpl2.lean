/-- a line that came, as a line of the net -/
theorem cpL_came {Ai : Nat → Nat → Int32} {Aj : Nat → Nat → Int64} {nl l ne nz nw : Nat} {x : lr_T} {D : cl_D} (hl : nl ≤ l) (hl2 : l ≤ 1000) (hU : cpU Ai Aj nl ne nz nw) (hD : tD Ai Aj l D) (h1 : x.2.2.1.1 = D.1) (h2 : lr_n x = D.2.1) (h3 : x.2.2.2.1 = D.2.2) (h4 : x.2.2.2.2 = ([], [])) : cpL Ai Aj ne nw l D.2.1 x := by
  obtain ⟨u1, u2, u3⟩ := hU
  obtain ⟨wd, c, f1, f2, f3⟩ := D
  obtain ⟨d1, d2, d3, d4⟩ := hD
  refine ⟨h1.trans d1, h2, fun k hk => ?_, fun d hd => ?_, ?_, ?_, fun d s hd hs => ?_⟩
  · rw [h3]
    show (∃ p, p < 100 ∧ x.2.2.2.1.1 k = nI p) ∧ x.2.2.2.1.1 k = _ ∧ _
    rw [h3]
    exact d4 k hk
  · rw [h4, fs_nn (fun i _ hi => ?_)]
    · rfl
    · unfold mr_p
      obtain ⟨l', hl', e⟩ := u1 i (by omega)
      rw [decide_eq_false (fun q => by rw [e] at q; have := ni_inj (by omega) (by omega) q; omega)]
      rfl
  · rw [h4]; exact fun q hq => absurd hq List.not_mem_nil
  · rw [h4]; exact Nat.zero_le _
  · rw [h4]
    have : ∀ k, k ≤ nw → ml_k Ai Aj (nI l) (nI s) (lN d) k = 0 := fun k => by
      induction k with
      | zero => intro _; rfl
      | succ k ih =>
        intro hk
        unfold ml_k
        obtain ⟨l', hl', e⟩ := u2 k (by omega)
        rw [if_neg (fun q => by have := q.1; rw [e] at this; have := ni_inj (by omega) (by omega) this; omega)]
        exact ih (by omega)
    rw [this nw (Nat.le_refl _)]; rfl
/-- the lines before stay as they were -/
theorem cpL_tag {A0 Ai : Nat → Nat → Int32} {J0 Aj : Nat → Nat → Int64} {k0 ne nw l c : Nat} {x : lr_T} (hc : c ≤ 12) (hl : l < k0) (hag : tAg k0 A0 J0 Ai Aj) (h : cpL A0 J0 ne nw l c x) : cpL Ai Aj ne nw l c x := by
  obtain ⟨g1, g2, g3⟩ := hag
  obtain ⟨u1, u2, u3⟩ := g3 l hl
  exact cpL_ag hc u1 (fun k hk => (u3 k hk).1) (fun k hk => (u3 k hk).2.1) (fun k hk => (u3 k hk).2.2) (g1 8 (by decide)) (g2 9 (by decide)) (g1 10 (by decide)) (g1 16 (by decide)) (g1 17 (by decide)) (g2 18 (by decide)) (g2 19 (by decide)) h
theorem cpZ_ag {Ai Ai' : Nat → Nat → Int32} {Aj Aj' : Nat → Nat → Int64} {nz p : Nat} {l : List (Int32 × Int32)} (h12 : Ai' 12 = Ai 12) (h14 : Ai' 14 = Ai 14) (h13 : Aj' 13 = Aj 13) (h : cpZ Ai Aj nz p l) : cpZ Ai' Aj' nz p l := by
  unfold cpZ at h ⊢
  rw [h12, h13, h14]; exact h
theorem cpU_ag {Ai Ai' : Nat → Nat → Int32} {Aj Aj' : Nat → Nat → Int64} {nl nl' ne nz nw : Nat} (hnl : nl ≤ nl') (h8 : Ai' 8 = Ai 8) (h16 : Ai' 16 = Ai 16) (h12 : Ai' 12 = Ai 12) (h13 : Aj' 13 = Aj 13) (h : cpU Ai Aj nl ne nz nw) : cpU Ai' Aj' nl' ne nz nw := by
  obtain ⟨u1, u2, u3⟩ := h
  refine ⟨fun k hk => ?_, fun k hk => ?_, fun j k => ?_⟩
  · obtain ⟨l, hl, e⟩ := u1 k hk
    exact ⟨l, by omega, by rw [h8]; exact e⟩
  · obtain ⟨l, hl, e⟩ := u2 k hk
    exact ⟨l, by omega, by rw [h16]; exact e⟩
  · rw [h12, h13]; exact u3 j k
/-! the way: what step tells -/
def cpW (Ai : Nat → Nat → Int32) (Aj : Nat → Nat → Int64) (K : Nat) (pf : Nat → Nat → Int32) : Prop := ∀ i w, i < K → w < 6 → pf i w = ms_v Ai Aj i w
theorem cpW_ag {Ai Ai' : Nat → Nat → Int32} {Aj Aj' : Nat → Nat → Int64} {K : Nat} {pf : Nat → Nat → Int32} (h23 : Ai' 23 = Ai 23) (h24 : Aj' 24 = Aj 24) (h25 : Ai' 25 = Ai 25) (h26 : Ai' 26 = Ai 26) (h31 : Ai' 31 = Ai 31) (h : cpW Ai Aj K pf) : cpW Ai' Aj' K pf := fun i w hi hw => by
  rw [h i w hi hw]
  unfold ms_v
  rw [h23, h24, h25, h26, h31]
theorem cpW_tell {L : Nat → lr_T} {nl : Nat} {Z : Nat → List (Int32 × Int32)} {C : Nat → Int32} {Ai Ai' : Nat → Nat → Int32} {Aj Aj' : Nat → Nat → Int64} {ne nz nw : Nat} {cn : Nat → Nat} {T K : Nat} {q : Nat → Nat × Nat × Nat × Nat} {pf : Nat → Nat → Int32} (hT : T ≤ 1700000000) (hcp : qCp L nl (nI T / 86400 - 3) Z C Ai Aj ne nz nw cn T) (hq : ∀ m, m < K → q_ok Ai Aj ne cn T nl (q m)) (h : ∀ n, n < K → Ai' 23 n = nI (q n).1 ∧ Aj' 24 n = dy T (q n).2.1 ∧ Ai' 25 n = nI (q n).2.2.2 ∧ Ai' 26 n = nI (q n).2.2.1 ∧ Ai' 31 (2 * n) = (mt_t Ai Aj nz nw (q n).1 (dy T (q n).2.1) (q n).2.2.2 true).toInt32 ∧ Ai' 31 (2 * n + 1) = (mt_t Ai Aj nz nw (q n).1 (dy T (q n).2.1) (q n).2.2.1 false).toInt32) : cpW Ai' Aj' K (q_pf L (nI T / 86400 - 3) Z q K pf) := fun i w hi hw => by
  obtain ⟨h1, h2, h3, h4, h5, h6⟩ := h i hi
  have hok := hq i hi
  unfold q_pf
  rw [if_pos hi]
  unfold ms_v
  rcases hqi : q i with ⟨l, r, j, e⟩
  rw [hqi] at h1 h2 h3 h4 h5 h6 hok
  obtain ⟨o1, o2, o3, o4, o5⟩ := hok
  dsimp only at h1 h2 h3 h4 h5 h6
  have hday : (dy T r).toInt32 = nI T / 86400 - 3 + nI r := by
    rcases cp_day hT o2 with ⟨e1, e2⟩ | ⟨d, hd, e1, e2⟩
    · exfalso
      unfold mr_run at o3
      rw [if_pos e2] at o3
      exact absurd o3 (by decide)
    · rw [e1, e2, lN_i]
  obtain ⟨c1, c2, c3⟩ := hcp.1 l o1
  have ht := (c3 r o2).2 o3
  have hto : ∀ (x : Int64) (y : Int32), y.toInt = x.toInt → x.toInt32 = y := fun x y e => by
    rw [i3_eq, Int64.toInt_toInt32, ← e]
    have := i3_bd y
    exact Int.bmod_eq_of_le (by omega) (by omega)
  unfold tl_p
  dsimp only
  match w, hw with
  | 0, _ => rw [pk_un (by decide), pk_us, if_pos rfl, h1]
  | 1, _ => rw [pk_us, if_neg (by decide), if_pos rfl, h2, hday]
  | 2, _ => rw [pk_un (by decide), pk_un (by decide), pk_un (by decide), pk_un (by decide), pk_un (by decide), pk_us, if_neg (by decide), if_neg (by decide), if_pos rfl, h3]
  | 3, _ => rw [pk_un (by decide), pk_un (by decide), pk_un (by decide), pk_un (by decide), pk_us, if_neg (by decide), if_neg (by decide), if_neg (by decide), if_pos rfl, h4]
  | 4, _ =>
    rw [pk_un (by decide), pk_un (by decide), pk_un (by decide), pk_us, if_neg (by decide), if_neg (by decide), if_neg (by decide), if_neg (by decide), show 2 * i + 4 - 4 = 2 * i by omega, h5]
    exact (hto _ _ (ht e (by omega)).2).symm
  | 5, _ =>
    rw [pk_un (by decide), pk_un (by decide), pk_us, if_neg (by decide), if_neg (by decide), if_neg (by decide), if_neg (by decide), show 2 * i + 5 - 4 = 2 * i + 1 by omega, h6]
    exact (hto _ _ (ht j o4).1).symm
  | w + 6, hw => omega
