/-- the class's lines and the reference's, as the search sees them -/
def qCp (L : Nat → lr_T) (nl : Nat) (fd : Int32) (Z : Nat → List (Int32 × Int32)) (C : Nat → Int32) (Ai : Nat → Nat → Int32) (Aj : Nat → Nat → Int64) (ne nz nw : Nat) (cn : Nat → Nat) (T : Nat) : Prop := (∀ i, i < nl → lr_n (L i) = cn i ∧ (∀ k, k < cn i → lr_f1 (L i) k = Ai 4 (12 * i + k)) ∧ ∀ r, r < 13 → (lr_run (L i) fd r = 1 ↔ mr_run Ai Aj ne i (dy T r) = 1) ∧ (mr_run Ai Aj ne i (dy T r) = 1 → ∀ k, k < cn i → (lr_A (L i) fd Z r k).toInt = (mA Ai Aj nz nw T i r k).toInt ∧ (lr_B (L i) fd Z r k).toInt = (mB Ai Aj nz nw T i r k).toInt)) ∧ ∀ p, p < 100 → C p = Ai 20 p
section
variable {L : Nat → lr_T} {nl : Nat} {fd : Int32} {Z : Nat → List (Int32 × Int32)} {C : Nat → Int32} {Ai : Nat → Nat → Int32} {Aj : Nat → Nat → Int64} {ne nz nw : Nat} {cn : Nat → Nat} {from' to T : Nat}
theorem q_cpX (h : qCp L nl fd Z C Ai Aj ne nz nw cn T) (hX : qX L nl fd Z) : qmX Ai Aj ne nz nw cn T nl := fun l hl => by
  obtain ⟨h1, h2, h3⟩ := h.1 l hl
  refine ⟨fun k hk => ?_, fun r hr hrun k hk => ?_⟩
  · obtain ⟨p, hp, hf⟩ := (hX l hl).1 k (by omega)
    show (Ai 4 (12 * l + k)).toNatClampNeg < 100
    rw [← h2 k hk, hf, ni_cl (by omega)]; exact hp
  · have := (hX l hl).2 r hr ((h3 r hr).1.mpr hrun) k (by omega)
    have := (h3 r hr).2 hrun k hk
    omega
theorem q_cpL (h : qCp L nl fd Z C Ai Aj ne nz nw cn T) : qL L nl fd Z = qM Ai Aj ne nz nw cn T nl := by
  funext q p b a
  refine propext ⟨?_, ?_⟩
  · rintro ⟨i, r, e, l, hi, hr, hrun, hel, hl, rfl, rfl, rfl, rfl, hba⟩
    obtain ⟨h1, h2, h3⟩ := h.1 i hi
    dsimp only at hrun hl hba
    rw [h1] at hl
    have hrun' := (h3 r hr).1.mp hrun
    have he := (h3 r hr).2 hrun' e (by omega)
    have hl' := (h3 r hr).2 hrun' l (by omega)
    refine ⟨i, r, e, l, hi, hr, hrun', hel, hl, ?_, ?_, he.2.symm, hl'.1.symm, hba⟩
    · exact congrArg Int32.toNatClampNeg (h2 e (by omega)).symm
    · exact congrArg Int32.toNatClampNeg (h2 l hl).symm
  · rintro ⟨i, r, e, l, hi, hr, hrun, hel, hl, rfl, rfl, rfl, rfl, hba⟩
    obtain ⟨h1, h2, h3⟩ := h.1 i hi
    dsimp only at hrun hl hba
    have he := (h3 r hr).2 hrun e (by omega)
    have hl' := (h3 r hr).2 hrun l (by omega)
    refine ⟨i, r, e, l, hi, hr, (h3 r hr).1.mpr hrun, hel, by dsimp only; omega, ?_, ?_, he.2, hl'.1, hba⟩
    · exact congrArg Int32.toNatClampNeg (h2 e (by omega))
    · exact congrArg Int32.toNatClampNeg (h2 l hl)
/-- what findBest leaves, and the reference's rounds: S', W' the class's as Int, E the reference's -/
def qAll (L : Nat → lr_T) (nl : Nat) (fd : Int32) (Z : Nat → List (Int32 × Int32)) (C : Nat → Int32) (Ai : Nat → Nat → Int32) (Aj : Nat → Nat → Int64) (ne nz nw : Nat) (cn : Nat → Nat) (from' to T : Nat) (K : Nat) (W : Nat → Nat → Int32) (S' W' E : Nat → Nat → Int) : Prop := (∀ n p, E n p = qph (ee Ai Aj ne nz nw cn from' T nl n (100 * n + p))) ∧ qE (qL L nl fd Z) (fun p => (C p).toInt) from' T 6 E ∧ qS (qL L nl fd Z) (fun p => (C p).toInt) from' to T 6 S' W' ∧ (∀ n, n ≤ 6 → qI from' to T S' W' E n) ∧ (∀ n p, n ≤ K → W' n p = (W n p).toInt) ∧ ∀ n p, K < n → W' n p = 2147483647
theorem q_all (hf : from' < 100) (hto : to < 100) (hT : T ≤ 1700000000) (h : qCp L nl fd Z C Ai Aj ne nz nw cn T) (hX : qX L nl fd Z) (hC : ∀ p, p < 100 → 0 ≤ (C p).toInt ∧ (C p).toInt ≤ 100000) {K : Nat} {so W : Nat → Nat → Int32} {fl : Nat → Int32} (hR : fb_R L nl fd Z C from' to (nI T) K so W fl) (hK : K = 6 ∨ fl K = 0) (hK6 : K ≤ 6) : ∃ S' W' E, qAll L nl fd Z C Ai Aj ne nz nw cn from' to T K W S' W' E := by
  have hTt : (nI T).toInt = T := nI_toInt (by omega)
  obtain ⟨S', W', h1, h2, h3⟩ := q_fb hto (by rw [hTt]; omega) hX hC hR hK hK6
  rw [hTt] at h1
  have hE := q_mE (from' := from') (q_cpX h hX) hT (fun p hp => by rw [← h.2 p hp]; exact hC p hp) 6
  have hE' : qE (qL L nl fd Z) (fun p => (C p).toInt) from' T 6 (fun n p => qph (ee Ai Aj ne nz nw cn from' T nl n (100 * n + p))) := by
    rw [q_cpL h]
    obtain ⟨e1, e2⟩ := hE
    have hrd : ∀ n q b p a, qM Ai Aj ne nz nw cn T nl q p b a → (qRd (fun p => (C p).toInt) from' (T : Int) (fun p => qph (ee Ai Aj ne nz nw cn from' T nl n (100 * n + p))) q b ↔ qRd (fun p => (Ai 20 p).toInt) from' (T : Int) (fun p => qph (ee Ai Aj ne nz nw cn from' T nl n (100 * n + p))) q b) := fun n q b p a hq => by
      have hq1 : q < 100 := by
        obtain ⟨i, r, e, l, hi, hr, hrun, hel, hl, rfl, _⟩ := hq
        exact (q_cpX h hX i hi).1 e (Nat.lt_trans hel hl)
      unfold qRd
      dsimp only
      rw [h.2 q hq1]
    refine ⟨e1, fun n hn => ⟨(e2 n hn).1, fun q p b a hl hr => (e2 n hn).2.1 q p b a hl ((hrd n q b p a hl).mp hr), fun p hp => ?_⟩⟩
    rcases (e2 n hn).2.2 p hp with h' | ⟨q, b, hl, hr⟩
    · exact Or.inl h'
    · exact Or.inr ⟨q, b, hl, (hrd n q b p _ hl).mpr hr⟩
  refine ⟨S', W', fun n p => qph (ee Ai Aj ne nz nw cn from' T nl n (100 * n + p)), fun _ _ => rfl, hE', h1, ?_, fun n p hn => (h2 n p hn).2, h3⟩
  refine qI_n (fun q p b a hlg => ?_) (fun p hp => (hC p hp).1) (by omega) hf hto hE' h1
  obtain ⟨i, r, e, l, hi, hr, hrun, hel, hl, rfl, rfl, rfl, rfl, hba⟩ := hlg
  obtain ⟨x1, x2⟩ := hX i hi
  have hcl : ∀ k, k < lr_n (L i) → (lr_f1 (L i) k).toNatClampNeg < 100 := fun k hk => by
    obtain ⟨p2, hp2, hfp2⟩ := x1 k hk
    rw [hfp2, ni_cl (by omega)]; exact hp2
  exact ⟨hcl e (Nat.lt_trans hel hl), hcl l hl, hba, by have := (x2 r hr hrun l hl).2; dsimp only; omega⟩
end
section
variable {L : Nat → lr_T} {nl : Nat} {fd : Int32} {Z : Nat → List (Int32 × Int32)} {C : Nat → Int32} {Ai : Nat → Nat → Int32} {Aj : Nat → Nat → Int64} {ne nz nw : Nat} {cn : Nat → Nat} {from' to T K : Nat} {W : Nat → Nat → Int32} {S' W' E : Nat → Nat → Int}
theorem q_w (hto : to < 100) (h : qAll L nl fd Z C Ai Aj ne nz nw cn from' to T K W S' W' E) {n p : Nat} (hn : n < 6) (hp : p < 100) (hlt : E (n + 1) p < E n p) (hq : p = to ∨ E (n + 1) p < E (n + 1) to) : W' (n + 1) p = E (n + 1) p := by
  obtain ⟨h1, h2, h3, h4, h5, h6⟩ := h
  obtain ⟨a1, a2, a3, a4, a5⟩ := h4 n (by omega)
  obtain ⟨b1, b2, b3, b4, b5⟩ := h4 (n + 1) (by omega)
  have hS : S' (n + 1) p = E (n + 1) p := by
    rcases hq with rfl | hq
    · exact b3
    · exact b4 p hp hq
  have := a1 p hp
  rcases (h3.2.2 n hn).2 p hp with ⟨x1, x2⟩ | ⟨x1, x2, x3⟩
  · omega
  · omega
theorem q_wn (hto : to < 100) (h : qAll L nl fd Z C Ai Aj ne nz nw cn from' to T K W S' W' E) {n : Nat} (hn : n < 6) : (W' (n + 1) to = 2147483647 ∧ E (n + 1) to = E n to) ∨ (W' (n + 1) to < 2147483647 ∧ W' (n + 1) to = E (n + 1) to ∧ E (n + 1) to < E n to) := by
  obtain ⟨h1, h2, h3, h4, h5, h6⟩ := h
  obtain ⟨a1, a2, a3, a4, a5⟩ := h4 n (by omega)
  obtain ⟨b1, b2, b3, b4, b5⟩ := h4 (n + 1) (by omega)
  have := a1 to hto
  rcases (h3.2.2 n hn).2 to hto with ⟨x1, x2⟩ | ⟨x1, x2, x3⟩
  · left; omega
  · right; omega
theorem fs_congr2 {P Q : Nat → Bool} {m k : Nat} (h : ∀ i, k ≤ i → i < k + m → P i = Q i) : fs_s P k m = fs_s Q k m := fs_congr m k h
theorem q_tq (hto : to < 100) (hT : T ≤ 1700000000) (hcp : qCp L nl fd Z C Ai Aj ne nz nw cn T) (hX : qX L nl fd Z) (hC : ∀ p, p < 100 → 0 ≤ (C p).toInt ∧ (C p).toInt ≤ 100000) (h : qAll L nl fd Z C Ai Aj ne nz nw cn from' to T K W S' W' E) {n pl : Nat} (hK6 : K ≤ 6) (hn : n + 1 ≤ K) (hp : pl < 100) (hlt : E (n + 1) pl < E n pl) (hlt2 : E (n + 1) pl < E n to) (hq : pl = to ∨ E (n + 1) pl < E (n + 1) to) {i r : Nat} (hi : i < nl) (hr : r < 13) : tl_q (L i) fd Z n (W n) (W (n + 1)) C pl r = mc_d Ai (seqJ Aj 21 (ee Ai Aj ne nz nw cn from' T nl 6)) ne nz nw cn n from' T pl i r := by
  have hw := q_w hto h (by omega) hp hlt hq
  have hmX := q_cpX hcp hX
  have hag : agJ [21] Aj (seqJ Aj 21 (ee Ai Aj ne nz nw cn from' T nl 6)) := fun k hk => seqJ_ne (fun e => hk (by rw [e]; decide))
  obtain ⟨h1, h2, h3, h4, h5, h6⟩ := h
  obtain ⟨c1, c2, c3⟩ := hcp.1 i hi
  obtain ⟨d1, d2⟩ := c3 r hr
  obtain ⟨x1, x2⟩ := hX i hi
  unfold tl_q mc_d
  rw [mr_ag hag (by decide)]
  by_cases hrun : mr_run Ai Aj ne i (dy T r) = 1
  · rw [if_pos hrun, if_pos (d1.mpr hrun), c1]
    have d3 := d2 hrun
    have x3 := x2 r hr (d1.mpr hrun)
    have hfi : (fun k => mt_t Ai (seqJ Aj 21 (ee Ai Aj ne nz nw cn from' T nl 6)) nz nw i (dy T r) k false) = fun k => mA Ai Aj nz nw T i r k := by
      funext k; exact mt_ag hag (by decide)
    have hfo : (fun k => mt_t Ai (seqJ Aj 21 (ee Ai Aj ne nz nw cn from' T nl 6)) nz nw i (dy T r) k true) = fun k => mB Ai Aj nz nw T i r k := by
      funext k; exact mt_ag hag (by decide)
    rw [hfi, hfo]
    have h21 : (seqJ Aj 21 (ee Ai Aj ne nz nw cn from' T nl 6)) 21 = ee Ai Aj ne nz nw cn from' T nl 6 := seqJ_at
    have hst : ∀ m p, m ≤ 6 → p < 100 → ee Ai Aj ne nz nw cn from' T nl 6 (100 * m + p) = ee Ai Aj ne nz nw cn from' T nl m (100 * m + p) := fun m p hm hp => by
      have := q_est (from' := from') hmX (6 - m) m p hp
      rw [show m + (6 - m) = 6 by omega] at this
      exact this
    have hEb := q_mbd (from' := from') hmX hT
    have hElo := q_mlo (from' := from') hmX hT (fun p hp => by rw [← hcp.2 p hp]; exact hC p hp)
    -- the arrival that is looked for
    have hEpl : E (n + 1) pl < 2147483647 := by
      have := (h4 n (by omega)).1 pl hp; omega
    have hex : (ee Ai Aj ne nz nw cn from' T nl (n + 1) (100 * (n + 1) + pl)).toInt = E (n + 1) pl := by
      rw [h1] at hEpl ⊢
      rcases (qph_lt (hEb (n + 1) pl hp)).2 with hx | ⟨_, hx⟩
      · exact hx.symm
      · omega
    have hA : ∀ k, k < cn i → ((lr_A (L i) fd Z r k = W (n + 1) pl) ↔ (lr_A (L i) fd Z r k).toInt = E (n + 1) pl) := fun k hk => by
      rw [i3_eq, ← h5 (n + 1) pl (by omega), hw]
    have hA' : ∀ k, k < cn i → ((mA Ai Aj nz nw T i r k = ee Ai Aj ne nz nw cn from' T nl 6 (100 * (n + 1) + pl)) ↔ (lr_A (L i) fd Z r k).toInt = E (n + 1) pl) := fun k hk => by
      rw [hst (n + 1) pl (by omega) hp, i6_eq, hex, (d3 k hk).1]
    have hcl : ∀ k, k < cn i → (lr_f1 (L i) k).toNatClampNeg < 100 := fun k hk => by
      obtain ⟨p2, hp2, hfp2⟩ := x1 k (by omega)
      rw [hfp2, ni_cl (by omega)]; exact hp2
    have hpe : ∀ j, j < cn i → lr_f1 (L i) j = nI pl → (lr_A (L i) fd Z r j).toInt = E (n + 1) pl → ∀ e, e < j → fe_p (lr_f1 (L i)) (lr_A (L i) fd Z r) (lr_B (L i) fd Z r) n (W n) C j e = mc_p Ai (seqJ Aj 21 (ee Ai Aj ne nz nw cn from' T nl 6)) n from' T i (fun k => mA Ai Aj nz nw T i r k) (fun k => mB Ai Aj nz nw T i r k) j e := fun j hj hjp hja e he => by
      unfold fe_p mc_p
      dsimp only
      rw [h21, ← c2 e (by omega)]
      have hce := hcl e (by omega)
      have hb := (d3 e (by omega)).2
      have ha := (d3 j hj).1
      have hdec : decide (lr_B (L i) fd Z r e ≤ lr_A (L i) fd Z r j) = decide (mB Ai Aj nz nw T i r e ≤ mA Ai Aj nz nw T i r j) := by
        rw [decide_eq_decide, i3_le, i6_le, hb, ha]
      rw [hdec]
      by_cases hba : mB Ai Aj nz nw T i r e ≤ mA Ai Aj nz nw T i r j
      · rw [decide_eq_true hba, Bool.true_and, Bool.true_and]
        have hba' : (lr_B (L i) fd Z r e).toInt ≤ (lr_A (L i) fd Z r j).toInt := by rw [hb, ha]; exact i6_le.mp hba
        rw [Bool.eq_iff_iff, decide_eq_true_iff]
        have hWb : W n (lr_f1 (L i) e).toNatClampNeg = 2147483647 ∨ (W n (lr_f1 (L i) e).toNatClampNeg).toInt ≤ 2000000000 := by
          have h7 := h5 n (lr_f1 (L i) e).toNatClampNeg (by omega)
          have hT2 : (T : Int) ≤ 2000000000 := by omega
          match n with
          | 0 =>
            have := h3.2.1 _ hce
            rw [this] at h7
            split at h7
            · right; rw [← h7]; exact hT2
            · left; rw [i3_eq, ← h7]; rfl
          | m + 1 =>
            rcases (h3.2.2 m (by omega)).2 _ hce with ⟨_, y⟩ | ⟨_, y, q, b, ⟨i2, r2, e2, l2, hi2, hr2, hrun2, _, hl2, _, _, _, hy, _⟩, _⟩
            · left; rw [y] at h7; rw [i3_eq, ← h7]; rfl
            · right
              rw [← h7, y, ← hy]
              exact ((hX i2 hi2).2 r2 hr2 hrun2 l2 hl2).2
        rw [q_ce hWb (hC _ hce), q_mqe hT (by rw [← hb]; exact (x3 e (by omega)).1) (by rw [hst n _ (by omega) hce]; exact hEb n _ hce) (by rw [hst n _ (by omega) hce]; have := hElo n _ hce; omega) (by rw [← hcp.2 _ hce]; exact hC _ hce), ← hb]
        have hrd : qRd (fun p => (Ai 20 p).toInt) from' (T : Int) (fun p => qph (ee Ai Aj ne nz nw cn from' T nl 6 (100 * n + p))) (lr_f1 (L i) e).toNatClampNeg (lr_B (L i) fd Z r e).toInt ↔ qRd (fun p => (C p).toInt) from' T (E n) (lr_f1 (L i) e).toNatClampNeg (lr_B (L i) fd Z r e).toInt := by
          unfold qRd
          dsimp only
          rw [hst n _ (by omega) hce, h1, hcp.2 _ hce]
        rw [hrd, ← h5 n _ (by omega)]
        have hlg : qL L nl fd Z (lr_f1 (L i) e).toNatClampNeg pl (lr_B (L i) fd Z r e).toInt (lr_A (L i) fd Z r j).toInt := ⟨i, r, e, j, hi, hr, d1.mpr hrun, he, by dsimp only; omega, rfl, by dsimp only; rw [hjp, ni_cl (by omega)], rfl, rfl, hba'⟩
        constructor
        · intro hu
          exact q_us h3 (h4 n (by omega)) (fun p hp => (hC p hp).1) hce hu
        · intro hr'
          exact q_rd h2 h3 (by omega) (h4 n (by omega)) (fun m hm => h4 m (by omega)) (fun p hp => (hC p hp).1) hce hp hba' hlg (by omega) (by omega) hr'
      · rw [decide_eq_false hba, Bool.false_and, Bool.false_and]
    have hql : ∀ k, 1 ≤ k → k < 1 + (cn i - 1) → fl_q (lr_f1 (L i)) (lr_A (L i) fd Z r) (lr_B (L i) fd Z r) n (W n) (W (n + 1)) C pl k = mc_q Ai (seqJ Aj 21 (ee Ai Aj ne nz nw cn from' T nl 6)) n from' T pl i (fun k => mA Ai Aj nz nw T i r k) (fun k => mB Ai Aj nz nw T i r k) k := fun k hk1 hk => by
      unfold fl_q mc_q
      dsimp only
      rw [h21, ← c2 k (by omega)]
      have hdec : decide (lr_A (L i) fd Z r k = W (n + 1) pl) = decide (mA Ai Aj nz nw T i r k = ee Ai Aj ne nz nw cn from' T nl 6 (100 * (n + 1) + pl)) := by
        rw [decide_eq_decide, hA k (by omega), hA' k (by omega)]
      by_cases hpk : lr_f1 (L i) k = nI pl
      · by_cases hak : (lr_A (L i) fd Z r k).toInt = E (n + 1) pl
        · rw [decide_eq_true hpk, decide_eq_true ((hA k (by omega)).mpr hak), decide_eq_true ((hA' k (by omega)).mpr hak)]
          rw [fs_congr2 (fun e _ he => hpe k (by omega) hpk hak e (by omega))]
        · rw [decide_eq_false (fun q => hak ((hA k (by omega)).mp q)), decide_eq_false (fun q => hak ((hA' k (by omega)).mp q))]
          rfl
      · rw [decide_eq_false hpk]; rfl
    rw [fs_congr2 hql]
    rcases hs : fs_s (mc_q Ai (seqJ Aj 21 (ee Ai Aj ne nz nw cn from' T nl 6)) n from' T pl i (fun k => mA Ai Aj nz nw T i r k) (fun k => mB Ai Aj nz nw T i r k)) 1 (cn i - 1) with _ | j
    · rfl
    · have hj := fs_lt hs
      dsimp only
      have hjt := hj.2.2
      rw [← hql j hj.1 hj.2.1] at hjt
      unfold fl_q at hjt
      simp only [Bool.and_eq_true, decide_eq_true_eq] at hjt
      rw [fs_congr2 (fun e _ he => hpe j (by omega) hjt.1 ((hA j (by omega)).mp hjt.2.1) e (by omega))]
      try rfl
  · rw [if_neg hrun, if_neg (fun q => hrun (d1.mp q))]
end
theorem fs_ex {P : Nat → Bool} : ∀ {m k i : Nat}, k ≤ i → i < k + m → P i = true → ∃ j, fs_s P k m = some j
  | 0, k, i, h1, h2, _ => by omega
  | m + 1, k, i, h1, h2, h3 => by
    unfold fs_s
    by_cases hq : P k = true
    · exact ⟨k, if_pos hq⟩
    · rw [if_neg hq]
      exact fs_ex (i := i) (by by_cases h : i = k; · rw [h] at h3; exact absurd h3 hq
                               · omega) (by omega) h3
section
variable {Ai : Nat → Nat → Int32} {Aj : Nat → Nat → Int64} {ne nz nw : Nat} {cn : Nat → Nat} {lb from' T to : Nat}
/-- the leg that choose finds -/
def qlg (Ai : Nat → Nat → Int32) (Aj : Nat → Nat → Int64) (ne nz nw : Nat) (cn : Nat → Nat) (lb from' T to : Nat) (l r j i : Nat) : Prop := r < 13 ∧ mr_run Ai Aj ne l (dy T r) = 1 ∧ i < j ∧ j < cn l ∧ Ai 4 (12 * l + j) = nI to ∧ mA Ai Aj nz nw T l r j = Aj 21 (100 * (lb + 1) + to) ∧ mB Ai Aj nz nw T l r i ≤ mA Ai Aj nz nw T l r j ∧ mqe (Ai 20) (Aj 21) lb (mpl Ai l i) from' (lN T) ≤ mB Ai Aj nz nw T l r i
theorem qlg_d {l r j i : Nat} (hr : r < 13) (h : mc_d Ai Aj ne nz nw cn lb from' T to l r = some (j, i)) : qlg Ai Aj ne nz nw cn lb from' T to l r j i := by
  unfold mc_d at h
  by_cases hrun : mr_run Ai Aj ne l (dy T r) = 1
  · rw [if_pos hrun] at h
    rcases hs : fs_s (mc_q Ai Aj lb from' T to l (fun k => mt_t Ai Aj nz nw l (dy T r) k false) (fun k => mt_t Ai Aj nz nw l (dy T r) k true)) 1 (cn l - 1) with _ | j'
    · rw [hs] at h; cases h
    · rw [hs] at h
      dsimp only at h
      rcases hs2 : fs_s (mc_p Ai Aj lb from' T l (fun k => mt_t Ai Aj nz nw l (dy T r) k false) (fun k => mt_t Ai Aj nz nw l (dy T r) k true) j') 0 j' with _ | i'
      · rw [hs2] at h; cases h
      · rw [hs2] at h
        dsimp only at h
        cases h
        have h1 := fs_lt hs
        have h2 := fs_lt hs2
        have h3 := h1.2.2
        have h4 := h2.2.2
        unfold mc_q at h3
        unfold mc_p at h4
        simp only [Bool.and_eq_true, decide_eq_true_eq] at h3 h4
        exact ⟨hr, hrun, by omega, by omega, h3.1, h3.2.1, h4.1, h4.2⟩
  · rw [if_neg hrun] at h; cases h
theorem qlg_dx {l r j i : Nat} (h : qlg Ai Aj ne nz nw cn lb from' T to l r j i) : ∃ x, mc_d Ai Aj ne nz nw cn lb from' T to l r = some x := by
  obtain ⟨h1, h2, h3, h4, h5, h6, h7, h8⟩ := h
  unfold mc_d
  rw [if_pos h2]
  have hp : mc_p Ai Aj lb from' T l (fun k => mt_t Ai Aj nz nw l (dy T r) k false) (fun k => mt_t Ai Aj nz nw l (dy T r) k true) j i = true := by
    unfold mc_p
    simp only [Bool.and_eq_true, decide_eq_true_eq]
    exact ⟨h7, h8⟩
  obtain ⟨i', hi'⟩ := fs_ex (P := mc_p Ai Aj lb from' T l (fun k => mt_t Ai Aj nz nw l (dy T r) k false) (fun k => mt_t Ai Aj nz nw l (dy T r) k true) j) (k := 0) (m := j) (i := i) (by omega) (by omega) hp
  obtain ⟨j', hj'⟩ := fs_ex (P := mc_q Ai Aj lb from' T to l (fun k => mt_t Ai Aj nz nw l (dy T r) k false) (fun k => mt_t Ai Aj nz nw l (dy T r) k true)) (k := 1) (m := cn l - 1) (i := j) (by omega) (by omega) (by
    unfold mc_q
    simp only [Bool.and_eq_true, decide_eq_true_eq]
    exact ⟨h5, h6, by rw [hi']; rfl⟩)
  rw [hj']
  have h3 := (fs_lt hj').2.2
  unfold mc_q at h3
  simp only [Bool.and_eq_true, decide_eq_true_eq] at h3
  obtain ⟨i2, hi2⟩ := Option.isSome_iff_exists.mp h3.2.2
  dsimp only
  rw [hi2]
  exact ⟨_, rfl⟩
theorem qlg_r {l : Nat} : ∀ {m r r' j i : Nat}, r + m ≤ 13 → mc_r Ai Aj ne nz nw cn lb from' T to l r m = some (r', j, i) → qlg Ai Aj ne nz nw cn lb from' T to l r' j i
  | 0, r, r', j, i, _, h => by cases h
  | m + 1, r, r', j, i, hr, h => by
    unfold mc_r at h
    rcases hs : mc_d Ai Aj ne nz nw cn lb from' T to l r with _ | ⟨j', i'⟩
    · rw [hs] at h; exact qlg_r (by omega) h
    · rw [hs] at h
      cases h
      exact qlg_d (by omega) hs
theorem qlg_n : ∀ {m l l' r j i : Nat}, mc_n Ai Aj ne nz nw cn lb from' T to l m = some (l', r, j, i) → l' < l + m ∧ qlg Ai Aj ne nz nw cn lb from' T to l' r j i
  | 0, l, l', r, j, i, h => by cases h
  | m + 1, l, l', r, j, i, h => by
    unfold mc_n at h
    rcases hs : mc_r Ai Aj ne nz nw cn lb from' T to l 0 13 with _ | ⟨r', j', i'⟩
    · rw [hs] at h
      have := qlg_n h
      exact ⟨by omega, this.2⟩
    · rw [hs] at h
      cases h
      exact ⟨by omega, qlg_r (by omega) hs⟩
theorem qlg_rx {l : Nat} : ∀ {m r r' j i : Nat}, r ≤ r' → r' < r + m → qlg Ai Aj ne nz nw cn lb from' T to l r' j i → ∃ x, mc_r Ai Aj ne nz nw cn lb from' T to l r m = some x
  | 0, r, r', j, i, h1, h2, _ => by omega
  | m + 1, r, r', j, i, h1, h2, h => by
    unfold mc_r
    rcases hs : mc_d Ai Aj ne nz nw cn lb from' T to l r with _ | x
    · by_cases hrr : r = r'
      · subst hrr
        obtain ⟨x, hx⟩ := qlg_dx h
        rw [hx] at hs; cases hs
      · exact qlg_rx (by omega) (by omega) h
    · exact ⟨_, rfl⟩
theorem qlg_nx : ∀ {m l l' r j i : Nat}, l ≤ l' → l' < l + m → qlg Ai Aj ne nz nw cn lb from' T to l' r j i → ∃ x, mc_n Ai Aj ne nz nw cn lb from' T to l m = some x
  | 0, l, l', r, j, i, h1, h2, _ => by omega
  | m + 1, l, l', r, j, i, h1, h2, h => by
    unfold mc_n
    rcases hs : mc_r Ai Aj ne nz nw cn lb from' T to l 0 13 with _ | x
    · by_cases hrr : l = l'
      · subst hrr
        obtain ⟨x, hx⟩ := qlg_rx (m := 13) (r := 0) (by omega) (by have := h.1; omega) h
        rw [hx] at hs; cases hs
      · exact qlg_nx (by omega) (by omega) h
    · exact ⟨_, rfl⟩
end
section
variable {L : Nat → lr_T} {nl : Nat} {fd : Int32} {Z : Nat → List (Int32 × Int32)} {C : Nat → Int32} {Ai : Nat → Nat → Int32} {Aj : Nat → Nat → Int64} {ne nz nw : Nat} {cn : Nat → Nat} {from' to T K : Nat} {W : Nat → Nat → Int32} {S' W' E : Nat → Nat → Int}
theorem q_tr {lb pl i : Nat} {w wl : Nat → Int32} {A2 : Nat → Nat → Int64} (h : ∀ r, r < 13 → tl_q (L i) fd Z lb w wl C pl r = mc_d Ai A2 ne nz nw cn lb from' T pl i r) : ∀ m r, r + m ≤ 13 → tl_r (L i) fd Z lb w wl C pl r m = mc_r Ai A2 ne nz nw cn lb from' T pl i r m
  | 0, r, _ => rfl
  | m + 1, r, hr => by
    unfold tl_r mc_r
    rw [h r (by omega), q_tr h m (r + 1) (by omega)]
    try rfl
theorem q_tn {lb pl : Nat} {w wl : Nat → Int32} {A2 : Nat → Nat → Int64} (h : ∀ i, i < nl → ∀ r, r < 13 → tl_q (L i) fd Z lb w wl C pl r = mc_d Ai A2 ne nz nw cn lb from' T pl i r) : ∀ m i, i + m ≤ nl → tl_n L fd Z lb w wl C pl i m = mc_n Ai A2 ne nz nw cn lb from' T pl i m
  | 0, i, _ => rfl
  | m + 1, i, hi => by
    unfold tl_n mc_n
    rw [q_tr (h i (by omega)) 13 0 (by omega), q_tn h m (i + 1) (by omega)]
    try rfl
/-- the least last leg is there, and where it is entered the search goes on -/
theorem q_step (hT : T ≤ 1700000000) (hcp : qCp L nl fd Z C Ai Aj ne nz nw cn T) (hX : qX L nl fd Z) (hC : ∀ p, p < 100 → 0 ≤ (C p).toInt ∧ (C p).toInt ≤ 100000) (h : qAll L nl fd Z C Ai Aj ne nz nw cn from' to T K W S' W' E) {n pl : Nat} (hn : n < 6) (hp : pl < 100) (hlt : E (n + 1) pl < E n pl) : ∃ l r j i, mc_n Ai (seqJ Aj 21 (ee Ai Aj ne nz nw cn from' T nl 6)) ne nz nw cn n from' T pl 0 nl = some (l, r, j, i) ∧ l < nl ∧ qlg Ai (seqJ Aj 21 (ee Ai Aj ne nz nw cn from' T nl 6)) ne nz nw cn n from' T pl l r j i ∧ mpl Ai l i < 100 ∧ ∀ m, n = m + 1 → E n (mpl Ai l i) < E m (mpl Ai l i) ∧ E n (mpl Ai l i) ≤ E (n + 1) pl := by
  have hmX := q_cpX hcp hX
  have hag : agJ [21] Aj (seqJ Aj 21 (ee Ai Aj ne nz nw cn from' T nl 6)) := fun k hk => seqJ_ne (fun e => hk (by rw [e]; decide))
  obtain ⟨h1, h2, h3, h4, h5, h6⟩ := h
  have h21 : (seqJ Aj 21 (ee Ai Aj ne nz nw cn from' T nl 6)) 21 = ee Ai Aj ne nz nw cn from' T nl 6 := seqJ_at
  have hst : ∀ m p, m ≤ 6 → p < 100 → ee Ai Aj ne nz nw cn from' T nl 6 (100 * m + p) = ee Ai Aj ne nz nw cn from' T nl m (100 * m + p) := fun m p hm hp => by
    have := q_est (from' := from') hmX (6 - m) m p hp
    rw [show m + (6 - m) = 6 by omega] at this
    exact this
  have hEb := q_mbd (from' := from') hmX hT
  have hElo := q_mlo (from' := from') hmX hT (fun p hp => by rw [← hcp.2 p hp]; exact hC p hp)
  have hEpl : E (n + 1) pl < 2147483647 := by
    have := (h4 n (by omega)).1 pl hp; omega
  have hex : (ee Ai Aj ne nz nw cn from' T nl (n + 1) (100 * (n + 1) + pl)).toInt = E (n + 1) pl := by
    rw [h1] at hEpl ⊢
    rcases (qph_lt (hEb (n + 1) pl hp)).2 with hx | ⟨_, hx⟩
    · exact hx.symm
    · omega
  have hA : ∀ l r k, mA Ai (seqJ Aj 21 (ee Ai Aj ne nz nw cn from' T nl 6)) nz nw T l r k = mA Ai Aj nz nw T l r k := fun l r k => mt_ag hag (by decide)
  have hB : ∀ l r k, mB Ai (seqJ Aj 21 (ee Ai Aj ne nz nw cn from' T nl 6)) nz nw T l r k = mB Ai Aj nz nw T l r k := fun l r k => mt_ag hag (by decide)
  have hR : ∀ l r, mr_run Ai (seqJ Aj 21 (ee Ai Aj ne nz nw cn from' T nl 6)) ne l (dy T r) = mr_run Ai Aj ne l (dy T r) := fun l r => mr_ag hag (by decide)
  have hrd : ∀ l r e, l < nl → r < 13 → mr_run Ai Aj ne l (dy T r) = 1 → e < cn l → (mqe (Ai 20) (ee Ai Aj ne nz nw cn from' T nl 6) n (mpl Ai l e) from' (lN T) ≤ mB Ai Aj nz nw T l r e ↔ qRd (fun p => (C p).toInt) from' (T : Int) (E n) (mpl Ai l e) (mB Ai Aj nz nw T l r e).toInt) := fun l r e hl hr hrun he => by
    have hp := (hmX l hl).1 e he
    have := hElo n _ hp
    rw [q_mqe hT ((hmX l hl).2 r hr hrun e he).2 (by rw [hst n _ (by omega) hp]; exact hEb n _ hp) (by rw [hst n _ (by omega) hp]; omega) (by rw [← hcp.2 _ hp]; exact hC _ hp)]
    unfold qRd
    dsimp only
    rw [hst n _ (by omega) hp, h1, hcp.2 _ hp]
  have hex2 : ∃ x, mc_n Ai (seqJ Aj 21 (ee Ai Aj ne nz nw cn from' T nl 6)) ne nz nw cn n from' T pl 0 nl = some x := by
    rcases (h2.2 n (by omega)).2.2 pl hp with hx | ⟨q, b, hlg, hr⟩
    · omega
    · rw [q_cpL hcp] at hlg
      obtain ⟨l, r, e, k, hl, hr', hrun, hek, hk, rfl, hkp, rfl, hka, hba⟩ := hlg
      dsimp only at hrun hka hba
      have hb := ((hmX l hl).2 r hr' hrun k hk).1
      refine qlg_nx (l' := l) (r := r) (j := k) (i := e) (by omega) (by omega) ⟨hr', by rw [hR]; exact hrun, hek, hk, ?_, ?_, ?_, ?_⟩
      · have h7 := (hcp.1 l hl).2.1 k hk
        obtain ⟨p, hp', hf⟩ := (hX l hl).1 k (by rw [(hcp.1 l hl).1]; exact hk)
        rw [← h7, hf]
        have : mpl Ai l k = p := by show (Ai 4 (12 * l + k)).toNatClampNeg = p; rw [← h7, hf, ni_cl (by omega)]
        rw [← hkp, this]
      · rw [hA, h21, hst (n + 1) pl (by omega) hp, i6_eq, hex]; exact hka
      · rw [hA, hB, i6_le, hka]; exact hba
      · rw [h21, hB]
        exact (hrd l r e hl hr' hrun (Nat.lt_trans hek hk)).mpr hr
  obtain ⟨⟨l, r, j, i⟩, hx⟩ := hex2
  obtain ⟨hl, hq⟩ := qlg_n hx
  have hl : l < nl := by omega
  have hq' := hq
  obtain ⟨g1, g2, g3, g4, g5, g6, g7, g8⟩ := hq
  rw [hR] at g2
  rw [hA, h21, hst (n + 1) pl (by omega) hp, i6_eq, hex] at g6
  rw [hA, hB, i6_le] at g7
  rw [h21, hB, hrd l r i hl g1 g2 (by omega)] at g8
  have hpi := (hmX l hl).1 i (by omega)
  refine ⟨l, r, j, i, hx, hl, hq', hpi, ?_⟩
  rintro m rfl
  have hpj : mpl Ai l j = pl := by show (Ai 4 (12 * l + j)).toNatClampNeg = pl; rw [g5, ni_cl (by omega)]
  have hlg : qL L nl fd Z (mpl Ai l i) pl (mB Ai Aj nz nw T l r i).toInt (mA Ai Aj nz nw T l r j).toInt := by
    rw [q_cpL hcp]
    exact ⟨l, r, i, j, hl, g1, g2, g3, g4, rfl, hpj, rfl, rfl, g7⟩
  obtain ⟨e1, e2, e3⟩ := h2.2 m (by omega)
  have hno : ¬ qRd (fun p => (C p).toInt) from' T (E m) (mpl Ai l i) (mB Ai Aj nz nw T l r i).toInt := fun hx => by
    have := e2 _ _ _ _ hlg hx
    omega
  have hm := e1 _ hpi
  have hc := (hC _ hpi).1
  rcases g8 with ⟨y1, y2⟩ | ⟨y1, y2, y3⟩
  · exact absurd (Or.inl ⟨y1, y2⟩) hno
  · dsimp only at y3
    refine ⟨Int.not_le.mp fun hx => hno (Or.inr ⟨y1, by omega, by dsimp only; omega⟩), by omega⟩
end
/-- the way told by the legs q -/
def q_pf (L : Nat → lr_T) (fd : Int32) (Z : Nat → List (Int32 × Int32)) (q : Nat → Nat × Nat × Nat × Nat) (n : Nat) (pf : Nat → Nat → Int32) : Nat → Nat → Int32 := fun m => if m < n then tl_p L fd Z (pf m) (q m) else pf m
section
variable {L : Nat → lr_T} {nl : Nat} {fd : Int32} {Z : Nat → List (Int32 × Int32)} {C : Nat → Int32} {Ai : Nat → Nat → Int32} {Aj : Nat → Nat → Int64} {ne nz nw : Nat} {cn : Nat → Nat} {from' to T K : Nat} {W : Nat → Nat → Int32} {S' W' E : Nat → Nat → Int}
/-- a leg told is one of a run -/
def q_ok (Ai : Nat → Nat → Int32) (Aj : Nat → Nat → Int64) (ne : Nat) (cn : Nat → Nat) (T nl : Nat) : Nat × Nat × Nat × Nat → Prop := fun (l, r, j, i) => l < nl ∧ r < 13 ∧ mr_run Ai Aj ne l (dy T r) = 1 ∧ j < cn l ∧ i < j
theorem q_path (hto : to < 100) (hT : T ≤ 1700000000) (hcp : qCp L nl fd Z C Ai Aj ne nz nw cn T) (hX : qX L nl fd Z) (hC : ∀ p, p < 100 → 0 ≤ (C p).toInt ∧ (C p).toInt ≤ 100000) (h : qAll L nl fd Z C Ai Aj ne nz nw cn from' to T K W S' W' E) (hK6 : K ≤ 6) {k : Nat} (hk : k ≤ K) (hkt : ∀ m, m < k → E k to < E m to) : ∀ n, n ≤ k → ∀ (pl : Nat) (pf : Nat → Nat → Int32), pl < 100 → (∀ m, n = m + 1 → E n pl < E m pl ∧ E n pl ≤ E k to ∧ (pl = to ∨ n < k)) → ∃ (w : Nat → Nat) (q : Nat → Nat × Nat × Nat × Nat), w n = pl ∧ (∀ m, m < n → mc_n Ai (seqJ Aj 21 (ee Ai Aj ne nz nw cn from' T nl 6)) ne nz nw cn m from' T (w (m + 1)) 0 nl = some (q m) ∧ Ai 4 (12 * (q m).1 + (q m).2.2.2) = nI (w m) ∧ w m < 100 ∧ q_ok Ai Aj ne cn T nl (q m)) ∧ (tw_k L nl fd Z C W n (pl, pf)).2 = q_pf L fd Z q n pf
  | 0, _, pl, pf, _, _ => ⟨fun _ => pl, fun _ => (0, 0, 0, 0), rfl, fun m hm => by omega, by
      funext m; unfold q_pf; rw [if_neg (by omega)]; rfl⟩
  | n + 1, hn, pl, pf, hp, hc => by
    obtain ⟨c1, c2, c3⟩ := hc n rfl
    have hEnto : E (n + 1) pl < E n to := by have := hkt n (by omega); omega
    have hq3 : pl = to ∨ E (n + 1) pl < E (n + 1) to := by
      rcases c3 with c3 | c3
      · exact Or.inl c3
      · right; have := hkt (n + 1) c3; omega
    have htn := q_tn (L := L) (nl := nl) (fd := fd) (Z := Z) (C := C) (Ai := Ai) (ne := ne) (nz := nz) (nw := nw) (cn := cn) (from' := from') (T := T) (lb := n) (pl := pl) (w := W n) (wl := W (n + 1)) (A2 := seqJ Aj 21 (ee Ai Aj ne nz nw cn from' T nl 6)) (fun i hi r hr => q_tq hto hT hcp hX hC h hK6 (by omega) hp c1 hEnto hq3 hi hr) nl 0 (by omega)
    obtain ⟨l, r, j, i, hx, hl, hlg, hpi, hnx⟩ := q_step hT hcp hX hC h (show n < 6 by omega) hp c1
    obtain ⟨g1, g2, g3, g4, g5, g6, g7, g8⟩ := hlg
    have hag : agJ [21] Aj (seqJ Aj 21 (ee Ai Aj ne nz nw cn from' T nl 6)) := fun k hk => seqJ_ne (fun e => hk (by rw [e]; decide))
    rw [mr_ag hag (by decide)] at g2
    have hf1 : lr_f1 (L l) i = Ai 4 (12 * l + i) := (hcp.1 l hl).2.1 i (by omega)
    have hAi : Ai 4 (12 * l + i) = nI (mpl Ai l i) := by
      obtain ⟨p, hp', hf⟩ := (hX l hl).1 i (by rw [(hcp.1 l hl).1]; omega)
      have : mpl Ai l i = p := by show (Ai 4 (12 * l + i)).toNatClampNeg = p; rw [← hf1, hf, ni_cl (by omega)]
      rw [← hf1, hf, this]
    obtain ⟨w, q, w1, w2, w3⟩ := q_path hto hT hcp hX hC h hK6 hk hkt n (by omega) (mpl Ai l i) (seqU pf n (tl_p L fd Z (pf n) (l, r, j, i))) hpi (fun m hm => by
      obtain ⟨y1, y2⟩ := hnx m hm
      exact ⟨y1, by omega, Or.inr (by omega)⟩)
    refine ⟨fun x => if x = n + 1 then pl else w x, fun x => if x = n then (l, r, j, i) else q x, if_pos rfl, fun m hm => ?_, ?_⟩
    · by_cases hmn : m = n
      · subst hmn
        dsimp only
        rw [if_pos rfl, if_pos rfl, if_neg (by omega), w1]
        exact ⟨hx, hAi, hpi, hl, g1, g2, g4, g3⟩
      · dsimp only
        rw [if_neg (show ¬ m + 1 = n + 1 by omega), if_neg hmn, if_neg (show ¬ m = n + 1 by omega)]
        exact w2 m (by omega)
    · unfold tw_k
      have ht1 : tw_1 L nl fd Z C W n (pl, pf) = (mpl Ai l i, seqU pf n (tl_p L fd Z (pf n) (l, r, j, i))) := by
        unfold tw_1
        dsimp only
        rw [htn, hx]
        dsimp only
        rw [hf1]; rfl
      rw [ht1, w3]
      funext m
      unfold q_pf
      by_cases hmn : m = n
      · subst hmn
        dsimp only
        rw [if_neg (by omega), if_pos (by omega), if_pos rfl]
        exact seqU_at
      · by_cases hmn2 : m < n
        · dsimp only
          rw [if_pos hmn2, if_pos (by omega), if_neg hmn, seqU_ne hmn]
        · rw [if_neg hmn2, if_neg (by omega), seqU_ne hmn]
theorem q_fbf {x : Nat → Int32} : ∀ K, (fb_f x K = -1 ∧ ∀ j, 1 ≤ j → j ≤ K → x j = 2147483647) ∨ ∃ k, 1 ≤ k ∧ k ≤ K ∧ fb_f x K = nI k ∧ x k ≠ 2147483647 ∧ ∀ j, k < j → j ≤ K → x j = 2147483647
  | 0 => Or.inl ⟨rfl, fun j h1 h2 => by omega⟩
  | K + 1 => by
    unfold fb_f
    by_cases hq : x (K + 1) = 2147483647
    · rw [if_pos hq]
      rcases q_fbf K with ⟨h1, h2⟩ | ⟨k, h1, h2, h3, h4, h5⟩
      · exact Or.inl ⟨h1, fun j hj1 hj2 => by
          by_cases hj : j = K + 1
          · rw [hj]; exact hq
          · exact h2 j hj1 (by omega)⟩
      · exact Or.inr ⟨k, h1, by omega, h3, h4, fun j hj1 hj2 => by
          by_cases hj : j = K + 1
          · rw [hj]; exact hq
          · exact h5 j hj1 (by omega)⟩
    · rw [if_neg hq]
      exact Or.inr ⟨K + 1, by omega, by omega, rfl, hq, fun j hj1 hj2 => by omega⟩
/-- earliest, of two places: the class's answer and way are the reference's -/
theorem q_fin (hne : from' ≠ to) (hf : from' < 100) (hto : to < 100) (hT : T ≤ 1700000000) (hcp : qCp L nl fd Z C Ai Aj ne nz nw cn T) (hX : qX L nl fd Z) (hC : ∀ p, p < 100 → 0 ≤ (C p).toInt ∧ (C p).toInt ≤ 100000) {so : Nat → Nat → Int32} {fl : Nat → Int32} (hR : fb_R L nl fd Z C from' to (nI T) K so W fl) (hK : K = 6 ∨ fl K = 0) (hK6 : K ≤ 6) (pf : Nat → Nat → Int32) : (fb_f (fun k => W k to) K = -1 ∧ ee Ai Aj ne nz nw cn from' T nl 6 (600 + to) = 9223372036854775807) ∨ ∃ k w q, 1 ≤ k ∧ k ≤ K ∧ fb_f (fun k => W k to) K = nI k ∧ ee Ai Aj ne nz nw cn from' T nl 6 (600 + to) ≠ 9223372036854775807 ∧ (W k to).toInt = (ee Ai Aj ne nz nw cn from' T nl 6 (600 + to)).toInt ∧ me_K Ai Aj ne nz nw cn from' T nl to k w q ∧ (∀ m, m < k → q_ok Ai Aj ne cn T nl (q m)) ∧ (tw_k L nl fd Z C W k (to, pf)).2 = q_pf L fd Z q k pf := by
  obtain ⟨S', W', E, h⟩ := q_all hf hto hT hcp hX hC hR hK hK6
  have hh := h
  have hwn := fun n hn => q_wn hto h (n := n) hn
  have hmX := q_cpX hcp hX
  obtain ⟨h1, h2, h3, h4, h5, h6⟩ := h
  have hst : ∀ m p, m ≤ 6 → p < 100 → ee Ai Aj ne nz nw cn from' T nl 6 (100 * m + p) = ee Ai Aj ne nz nw cn from' T nl m (100 * m + p) := fun m p hm hp => by
    have := q_est (from' := from') hmX (6 - m) m p hp
    rw [show m + (6 - m) = 6 by omega] at this
    exact this
  have hEb := fun n => q_mbd (from' := from') hmX hT n to hto
  have hE6 : ee Ai Aj ne nz nw cn from' T nl 6 (600 + to) = ee Ai Aj ne nz nw cn from' T nl 6 (100 * 6 + to) := rfl
  -- from k on nothing comes earlier
  have hstay : ∀ k, k ≤ K → (∀ j, k < j → j ≤ K → W j to = 2147483647) → ∀ m, k + m ≤ 6 → E (k + m) to = E k to := fun k hkK hx m => by
    induction m with
    | zero => intro _; rfl
    | succ m ih =>
      intro hm
      rw [← ih (by omega)]
      rcases hwn (k + m) (by omega) with ⟨_, y⟩ | ⟨y1, _, _⟩
      · exact y
      · by_cases hj : k + m + 1 ≤ K
        · rw [h5 _ _ hj, hx (k + m + 1) (by omega) hj, i3_N] at y1; omega
        · rw [h6 _ _ (by omega)] at y1; omega
  have hanti : ∀ m j, j + m ≤ 6 → E (j + m) to ≤ E j to := fun m => by
    induction m with
    | zero => intro j _; exact Int.le_refl _
    | succ m ih =>
      intro j hm
      have := ih j (by omega)
      have := (h2.2 (j + m) (by omega)).1 to hto
      exact Int.le_trans this (by omega)
  rcases q_fbf (x := fun k => W k to) K with ⟨g1, g2⟩ | ⟨k, g1, g2, g3, g4, g5⟩
  · left
    refine ⟨g1, ?_⟩
    have := hstay 0 (by omega) (fun j h1 h2 => g2 j (by omega) h2) 6 (by omega)
    rw [show 0 + 6 = 6 from rfl, h2.1 to hto, if_neg (fun e => hne e.symm), h1] at this
    rcases hEb 6 with hx | hx
    · rw [hE6]; exact hx
    · rw [qph_fin (by omega)] at this; omega
  · right
    obtain ⟨m, rfl⟩ : ∃ m, k = m + 1 := ⟨k - 1, by omega⟩
    have hs6 := hstay (m + 1) g2 (fun j h1 h2 => g5 j h1 h2) (6 - (m + 1)) (by omega)
    rw [show m + 1 + (6 - (m + 1)) = 6 by omega] at hs6
    have hlt : W' (m + 1) to = E (m + 1) to ∧ E (m + 1) to < E m to := by
      rcases hwn m (by omega) with ⟨y, _⟩ | ⟨_, y1, y2⟩
      · exfalso
        rw [h5 _ _ g2] at y
        exact g4 (i3_eq.mpr y)
      · exact ⟨y1, y2⟩
    have hkt : ∀ j, j < m + 1 → E (m + 1) to < E j to := fun j hj => by
      have := hanti (m - j) j (by omega)
      rw [show j + (m - j) = m by omega] at this
      omega
    have hfinE : E (m + 1) to < 2147483647 := by
      have := (h4 m (by omega)).1 to hto; omega
    have hv : ee Ai Aj ne nz nw cn from' T nl 6 (600 + to) ≠ 9223372036854775807 ∧ (ee Ai Aj ne nz nw cn from' T nl 6 (600 + to)).toInt = E (m + 1) to := by
      rw [hE6]
      rw [← hs6, h1] at hfinE
      rw [← hs6, h1]
      rcases hEb 6 with hx | hx
      · rw [hx] at hfinE; exact absurd hfinE (by decide)
      · exact ⟨fun e => by rw [e, i6_N] at hx; omega, (qph_fin (by omega)).symm⟩
    obtain ⟨w, q, w1, w2, w3⟩ := q_path hto hT hcp hX hC hh hK6 g2 hkt (m + 1) (Nat.le_refl _) to pf hto (fun j hj => by
      obtain rfl : m = j := by omega
      exact ⟨hlt.2, Int.le_refl _, Or.inl rfl⟩)
    refine ⟨m + 1, w, q, g1, g2, g3, hv.1, by rw [← h5 _ _ g2, hlt.1, hv.2], ⟨by omega, ?_, fun j hj => ?_, w1, fun n hn => ⟨(w2 n hn).1, (w2 n hn).2.1, (w2 n hn).2.2.1⟩⟩, fun n hn => (w2 n hn).2.2.2, w3⟩
    · rw [hE6, hst (m + 1) to (by omega) hto, ← qph_inj (hEb (m + 1)) (hEb 6), ← h1, ← h1]; exact hs6.symm
    · rw [hE6, hst j to (by omega) hto, ne_eq, ← qph_inj (hEb j) (hEb 6), ← h1, ← h1, hs6]
      have := hkt j hj; omega
/-- earliest, from a place to itself -/
theorem q_same (hf : from' < 100) (hT : T ≤ 1700000000) (hX : qmX Ai Aj ne nz nw cn T nl) (hC : ∀ p, p < 100 → 0 ≤ (Ai 20 p).toInt ∧ (Ai 20 p).toInt ≤ 100000) : ee Ai Aj ne nz nw cn from' T nl 6 (600 + from') = lN T ∧ ∀ q, me_K Ai Aj ne nz nw cn from' T nl from' 0 (fun _ => from') q := by
  have hlo := q_mlo (from' := from') hX hT hC
  have hup : ∀ n, n ≤ 6 → (ee Ai Aj ne nz nw cn from' T nl n (100 * n + from')).toInt ≤ T := fun n => by
    induction n with
    | zero => intro _; rw [q_mE0 hf, if_pos rfl, lN_toInt (by omega)]; omega
    | succ n ih =>
      intro hn
      have h2 := (q_ee (from' := from') hX n).2.1 from' hf
      rw [q_mc hf] at h2
      have := ih (by omega)
      omega
  have h6 : ∀ n, n ≤ 6 → ee Ai Aj ne nz nw cn from' T nl n (100 * n + from') = lN T := fun n hn => i6_eq.mpr (by rw [lN_toInt (by omega)]; exact Int.le_antisymm (hup n hn) (hlo n from' hf))
  refine ⟨h6 6 (by omega), fun q => ⟨by omega, ?_, fun k hk => by omega, rfl, fun n hn => by omega⟩⟩
  have h0 := q_est (from' := from') hX 6 0 from' hf
  rw [show 0 + 6 = 6 from rfl, h6 0 (by omega)] at h0
  exact h0.trans (h6 6 (by omega)).symm
end
