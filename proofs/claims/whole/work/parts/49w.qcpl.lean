/-! what each call does to the coupling -/
theorem fs_app {P : Nat → Bool} : ∀ (m k : Nat), fs_s P k (m + 1) = match fs_s P k m with
    | some j => some j
    | none => if P (k + m) = true then some (k + m) else none
  | 0, k => by
    show (if P k = true then some k else none) = _
    rw [show fs_s P k 0 = none from rfl, Nat.add_zero]
  | m + 1, k => by
    rw [show fs_s P k (m + 1 + 1) = if P k = true then some k else fs_s P (k + 1) (m + 1) from rfl, show fs_s P k (m + 1) = if P k = true then some k else fs_s P (k + 1) m from rfl]
    by_cases hq : P k = true
    · rw [if_pos hq, if_pos hq]
    · rw [if_neg hq, if_neg hq, fs_app m (k + 1), show k + 1 + m = k + (m + 1) by omega]
theorem fs_none {P : Nat → Bool} : ∀ {m k : Nat}, fs_s P k m = none → ∀ i, k ≤ i → i < k + m → P i = false
  | 0, k, _, i, h1, h2 => by omega
  | m + 1, k, h, i, h1, h2 => by
    unfold fs_s at h
    by_cases hq : P k = true
    · rw [if_pos hq] at h; cases h
    · rw [if_neg hq] at h
      by_cases hi : i = k
      · rw [hi]; exact Bool.eq_false_iff.mpr hq
      · exact fs_none h i (by omega) (by omega)
theorem fs_nn {P : Nat → Bool} : ∀ {m k : Nat}, (∀ i, k ≤ i → i < k + m → P i = false) → fs_s P k m = none
  | 0, k, _ => rfl
  | m + 1, k, h => by
    unfold fs_s
    rw [if_neg (by rw [h k (by omega) (by omega)]; exact Bool.noConfusion)]
    exact fs_nn (fun i h1 h2 => h i (by omega) (by omega))
/-- the rest of what is coupled: the words' lines; each zone row once -/
def cpU (Ai : Nat → Nat → Int32) (Aj : Nat → Nat → Int64) (nl ne nz nw : Nat) : Prop := (∀ k, k < ne → ∃ l, l < nl ∧ Ai 8 k = nI l) ∧ (∀ k, k < nw → ∃ l, l < nl ∧ Ai 16 k = nI l) ∧ ∀ j k, j < nz → k < nz → Ai 12 j = Ai 12 k → Aj 13 j = Aj 13 k → j = k
/-- only what cpL reads -/
theorem cpL_ag {Ai Ai' : Nat → Nat → Int32} {Aj Aj' : Nat → Nat → Int64} {ne nw l c : Nat} {x : lr_T} (hc : c ≤ 12) (h2 : Ai' 2 l = Ai 2 l) (h4 : ∀ k, k < 12 → Ai' 4 (12 * l + k) = Ai 4 (12 * l + k)) (h5 : ∀ k, k < 12 → Aj' 5 (12 * l + k) = Aj 5 (12 * l + k)) (h6 : ∀ k, k < 12 → Aj' 6 (12 * l + k) = Aj 6 (12 * l + k)) (h8 : Ai' 8 = Ai 8) (h9 : Aj' 9 = Aj 9) (h10 : Ai' 10 = Ai 10) (h16 : Ai' 16 = Ai 16) (h17 : Ai' 17 = Ai 17) (h18 : Aj' 18 = Aj 18) (h19 : Aj' 19 = Aj 19) (h : cpL Ai Aj ne nw l c x) : cpL Ai' Aj' ne nw l c x := by
  obtain ⟨g1, g2, g3, g4, g5, g6, g7⟩ := h
  have hp : ∀ l d, mr_p Ai' Aj' l d = mr_p Ai Aj l d := fun l d => by
    funext k; unfold mr_p; rw [h8, h9]
  have hm : ∀ l s d k, ml_k Ai' Aj' l s d k = ml_k Ai Aj l s d k := fun l s d k => by
    induction k with
    | zero => rfl
    | succ k ih => unfold ml_k; rw [ih, h16, h17, h18, h19]
  refine ⟨g1.trans h2.symm, g2, fun k hk => ?_, fun d hd => ?_, g5, g6, fun d s hd hs => ?_⟩
  · rw [h4 k (by omega), h5 k (by omega), h6 k (by omega)]; exact g3 k hk
  · rw [hp, h10]; exact g4 d hd
  · rw [hm]; exact g7 d s hd hs
/-! line -/
def lr_z (u h : Nat) (La Ra Rd : Nat → Nat) (wd : Int32) (f1 f2 f3 : Nat → Int32) : lr_T := ((u, h), (La, Ra, Rd), (wd, 0, none, none), (f1, f2, f3), ([], []))
theorem cpL_new {Ai : Nat → Nat → Int32} {Aj : Nat → Nat → Int64} {nl ne nz nw : Nat} {x : lr_T} (hnl : nl ≤ 40) (hU : cpU Ai Aj nl ne nz nw) (h1 : x.2.2.1.1 = Ai 2 nl) (h2 : lr_n x = 0) (h3 : x.2.2.2.2 = ([], [])) : cpL Ai Aj ne nw nl 0 x := by
  obtain ⟨u1, u2, u3⟩ := hU
  refine ⟨h1, h2, fun k hk => by omega, fun d hd => ?_, ?_, ?_, fun d s hd hs => ?_⟩
  · rw [h3, fs_nn (fun i _ hi => ?_)]
    · rfl
    · unfold mr_p
      obtain ⟨l, hl, e⟩ := u1 i (by omega)
      rw [decide_eq_false (fun q => by rw [e] at q; have := ni_inj (by omega) (by omega) q; omega)]
      rfl
  · rw [h3]; exact fun q hq => absurd hq List.not_mem_nil
  · rw [h3]; exact Nat.zero_le _
  · rw [h3]
    have : ∀ k, k ≤ nw → ml_k Ai Aj (nI nl) (nI s) (lN d) k = 0 := fun k => by
      induction k with
      | zero => intro _; rfl
      | succ k ih =>
        intro hk
        unfold ml_k
        obtain ⟨l, hl, e⟩ := u2 k (by omega)
        rw [if_neg (fun q => by have := q.1; rw [e] at this; have := ni_inj (by omega) (by omega) this; omega)]
        exact ih (by omega)
    rw [this nw (Nat.le_refl _)]; rfl
/-! stop -/
def lr_st (p a b : Int32) : lr_T → lr_T := fun ((u, h), (La, Ra, Rd), (wd, n, dw, lw), (f1, f2, f3), (dl, ll)) => ((u, h), (La, Ra, Rd), (wd, n + 1, dw, lw), (upd f1 n p, upd f2 n a, upd f3 n b), (dl, ll))
theorem cpL_st {Ai : Nat → Nat → Int32} {Aj : Nat → Nat → Int64} {ne nw l c p : Nat} {x : lr_T} {a b : Int32} {aj bj : Int64} (hc : c < 12) (hp : p < 100) (ha : a.toInt = aj.toInt ∧ 0 ≤ a.toInt ∧ a.toInt ≤ 259200) (hb : b.toInt = bj.toInt ∧ 0 ≤ b.toInt ∧ b.toInt ≤ 259200) (h : cpL Ai Aj ne nw l c x) : cpL (mo_as Ai l c (nI p)) (mo_aj Aj l c aj bj) ne nw l (c + 1) (lr_st (nI p) a b x) := by
  obtain ⟨⟨u, h'⟩, ⟨La, Ra, Rd⟩, ⟨wd, n, dw, lw⟩, ⟨f1, f2, f3⟩, ⟨dl, ll⟩⟩ := x
  obtain ⟨g1, g2, g3, g4, g5, g6, g7⟩ := h
  dsimp only at g1 g3 g4 g5 g6 g7
  obtain rfl : n = c := g2
  have e2 : mo_as Ai l n (nI p) 2 = Ai 2 := by unfold mo_as; rw [seqU_ne (by decide), seqU_ne (by decide)]
  have e4 : mo_as Ai l n (nI p) 4 = upd (Ai 4) (12 * l + n) (nI p) := by unfold mo_as; rw [seqU_ne (by decide), seqU_at]
  have e5 : mo_aj Aj l n aj bj 5 = vp_updL (Aj 5) (12 * l + n) aj := by unfold mo_aj; rw [seqJ_ne (by decide), seqJ_at]
  have e6 : mo_aj Aj l n aj bj 6 = vp_updL (Aj 6) (12 * l + n) bj := by unfold mo_aj; rw [seqJ_at]
  have e8 : mo_as Ai l n (nI p) 8 = Ai 8 := by unfold mo_as; rw [seqU_ne (by decide), seqU_ne (by decide)]
  have e10 : mo_as Ai l n (nI p) 10 = Ai 10 := by unfold mo_as; rw [seqU_ne (by decide), seqU_ne (by decide)]
  have e16 : mo_as Ai l n (nI p) 16 = Ai 16 := by unfold mo_as; rw [seqU_ne (by decide), seqU_ne (by decide)]
  have e17 : mo_as Ai l n (nI p) 17 = Ai 17 := by unfold mo_as; rw [seqU_ne (by decide), seqU_ne (by decide)]
  have e9 : mo_aj Aj l n aj bj 9 = Aj 9 := by unfold mo_aj; rw [seqJ_ne (by decide), seqJ_ne (by decide)]
  have e18 : mo_aj Aj l n aj bj 18 = Aj 18 := by unfold mo_aj; rw [seqJ_ne (by decide), seqJ_ne (by decide)]
  have e19 : mo_aj Aj l n aj bj 19 = Aj 19 := by unfold mo_aj; rw [seqJ_ne (by decide), seqJ_ne (by decide)]
  have hpp : ∀ l' d, mr_p (mo_as Ai l n (nI p)) (mo_aj Aj l n aj bj) l' d = mr_p Ai Aj l' d := fun l' d => by
    funext k; unfold mr_p; rw [e8, e9]
  have hm : ∀ l' s d k, ml_k (mo_as Ai l n (nI p)) (mo_aj Aj l n aj bj) l' s d k = ml_k Ai Aj l' s d k := fun l' s d k => by
    induction k with
    | zero => rfl
    | succ k ih => unfold ml_k; rw [ih, e16, e17, e18, e19]
  refine ⟨by rw [e2]; exact g1, rfl, fun k hk => ?_, fun d hd => by rw [hpp, e10]; exact g4 d hd, g5, g6, fun d s hd hs => by rw [hm]; exact g7 d s hd hs⟩
  rw [e4, e5, e6]
  show (∃ q, q < 100 ∧ upd f1 n (nI p) k = nI q) ∧ upd f1 n (nI p) k = _ ∧ ((upd f2 n a k).toInt = _ ∧ 0 ≤ (upd f2 n a k).toInt ∧ (upd f2 n a k).toInt ≤ 259200) ∧ (upd f3 n b k).toInt = _ ∧ 0 ≤ (upd f3 n b k).toInt ∧ (upd f3 n b k).toInt ≤ 259200
  by_cases hkn : k = n
  · subst hkn
    rw [pk_us, pk_us, pk_us, pk_us, pk_uLs, pk_uLs]
    exact ⟨⟨p, hp, rfl⟩, rfl, ha, hb⟩
  · rw [pk_un hkn, pk_un hkn, pk_un hkn, pk_un (by omega), pk_uLn (by omega), pk_uLn (by omega)]
    exact g3 k (by omega)
theorem cpL_st' {Ai : Nat → Nat → Int32} {Aj : Nat → Nat → Int64} {ne nw l l' c c' : Nat} {x : lr_T} {p : Int32} {aj bj : Int64} (hc : c < 12) (hc' : c' ≤ 12) (hl : l' ≠ l) (h : cpL Ai Aj ne nw l' c' x) : cpL (mo_as Ai l c p) (mo_aj Aj l c aj bj) ne nw l' c' x := by
  refine cpL_ag hc' ?_ (fun k hk => ?_) (fun k hk => ?_) (fun k hk => ?_) ?_ ?_ ?_ ?_ ?_ ?_ ?_ h
  · unfold mo_as; rw [seqU_ne (by decide), seqU_ne (by decide)]
  · unfold mo_as; rw [seqU_ne (by decide), seqU_at, pk_un (by omega)]
  · unfold mo_aj; rw [seqJ_ne (by decide), seqJ_at, pk_uLn (by omega)]
  · unfold mo_aj; rw [seqJ_at, pk_uLn (by omega)]
  · unfold mo_as; rw [seqU_ne (by decide), seqU_ne (by decide)]
  · unfold mo_aj; rw [seqJ_ne (by decide), seqJ_ne (by decide)]
  · unfold mo_as; rw [seqU_ne (by decide), seqU_ne (by decide)]
  · unfold mo_as; rw [seqU_ne (by decide), seqU_ne (by decide)]
  · unfold mo_as; rw [seqU_ne (by decide), seqU_ne (by decide)]
  · unfold mo_aj; rw [seqJ_ne (by decide), seqJ_ne (by decide)]
  · unfold mo_aj; rw [seqJ_ne (by decide), seqJ_ne (by decide)]
/-! exception -/
def dw_set (d x : Int32) : List (Int32 × Int32) → List (Int32 × Int32)
  | [] => []
  | (e, y) :: l => if e = d then (e, x) :: l else (e, y) :: dw_set d x l
theorem dw_get_set {d x : Int32} : ∀ (l : List (Int32 × Int32)), dw_get l d ≠ none → ∀ k, dw_get (dw_set d x l) k = if k = d then some x else dw_get l k
  | [], h, _ => absurd rfl h
  | (e, y) :: l, h, k => by
    unfold dw_set
    by_cases he : e = d
    · rw [if_pos he]
      unfold dw_get
      by_cases hk : k = d
      · rw [if_pos (he.trans hk.symm), if_pos hk]
      · rw [if_neg (fun q => hk (q.symm.trans he)), if_neg hk, if_neg (fun q => hk (q.symm.trans he))]
    · rw [if_neg he]
      unfold dw_get at h ⊢
      rw [if_neg he] at h
      rw [dw_get_set l h k]
      by_cases hk : k = d
      · rw [if_neg (fun q => he (q.trans hk)), if_pos hk, if_pos hk]
      · rw [if_neg hk, if_neg hk]
/-- the exceptions of the reference, after one more word -/
def mxA (Ai : Nat → Nat → Int32) (a : Nat) (l x : Int32) : Nat → Nat → Int32 := seqU (seqU Ai 8 (upd (Ai 8) a l)) 10 (upd (Ai 10) a x)
def mxJ (Aj : Nat → Nat → Int64) (a : Nat) (d : Int64) : Nat → Nat → Int64 := seqJ Aj 9 (vp_updL (Aj 9) a d)
theorem mx_get {Ai : Nat → Nat → Int32} {Aj : Nat → Nat → Int64} {ne : Nat} {l l' x : Int32} {d d' : Int64} : (fs_s (mr_p (mxA Ai (mf_at (fs_s (mr_p Ai Aj l d) 0 ne) ne) l x) (mxJ Aj (mf_at (fs_s (mr_p Ai Aj l d) 0 ne) ne) d) l' d') 0 (mf_n (mf_at (fs_s (mr_p Ai Aj l d) 0 ne) ne) ne)).map (mxA Ai (mf_at (fs_s (mr_p Ai Aj l d) 0 ne) ne) l x 10) = if l' = l ∧ d' = d then some x else (fs_s (mr_p Ai Aj l' d') 0 ne).map (Ai 10) := by
  obtain ⟨a, ha⟩ : ∃ a, a = mf_at (fs_s (mr_p Ai Aj l d) 0 ne) ne := ⟨_, rfl⟩
  rw [← ha]
  have e8 : mxA Ai a l x 8 = upd (Ai 8) a l := by unfold mxA; rw [seqU_ne (by decide), seqU_at]
  have e10 : mxA Ai a l x 10 = upd (Ai 10) a x := by unfold mxA; rw [seqU_at]
  have e9 : mxJ Aj a d 9 = vp_updL (Aj 9) a d := by unfold mxJ; rw [seqJ_at]
  have hne : ∀ k, k ≠ a → mr_p (mxA Ai a l x) (mxJ Aj a d) l' d' k = mr_p Ai Aj l' d' k := fun k hk => by
    unfold mr_p; rw [e8, e9, pk_un hk, pk_uLn hk]
  have hat : mr_p (mxA Ai a l x) (mxJ Aj a d) l' d' a = (decide (l = l') && decide (d = d')) := by
    unfold mr_p; rw [e8, e9, pk_us, pk_uLs]
  rw [e10]
  rcases hs : fs_s (mr_p Ai Aj l d) 0 ne with _ | k0
  · rw [hs] at ha
    have ha : a = ne := ha
    subst ha
    rw [show mf_n a a = a + 1 from if_pos rfl, fs_app, fs_congr2 (fun i _ hi => hne i (by omega)), Nat.zero_add]
    by_cases hq : l' = l ∧ d' = d
    · obtain ⟨rfl, rfl⟩ := hq
      rw [hs]
      dsimp only
      rw [if_pos (show mr_p (mxA Ai a l' x) (mxJ Aj a d') l' d' a = true by rw [hat, decide_eq_true rfl, decide_eq_true rfl]; rfl), if_pos (show l' = l' ∧ d' = d' from ⟨rfl, rfl⟩)]
      show some (upd (Ai 10) a x a) = _
      rw [pk_us]
    · rw [if_neg hq]
      rcases hs2 : fs_s (mr_p Ai Aj l' d') 0 a with _ | k1
      · dsimp only
        rw [hat, if_neg (fun e => hq (by simp only [Bool.and_eq_true, decide_eq_true_eq] at e; exact ⟨e.1.symm, e.2.symm⟩))]
        rfl
      · have := (fs_lt hs2).2.1
        show some (upd (Ai 10) a x k1) = some (Ai 10 k1)
        rw [pk_un (by omega)]
  · rw [hs] at ha
    have ha : a = k0 := ha
    subst ha
    have hk0 := fs_lt hs
    have hkey : Ai 8 a = l ∧ Aj 9 a = d := by
      have := hk0.2.2
      unfold mr_p at this
      simp only [Bool.and_eq_true, decide_eq_true_eq] at this
      exact this
    rw [show mf_n a ne = ne from if_neg (by omega)]
    have hsame : ∀ k, mr_p (mxA Ai a l x) (mxJ Aj a d) l' d' k = mr_p Ai Aj l' d' k := fun k => by
      by_cases hk : k = a
      · subst hk
        rw [hat]; unfold mr_p; rw [hkey.1, hkey.2]
      · exact hne k hk
    rw [fs_congr2 (fun i _ _ => hsame i)]
    by_cases hq : l' = l ∧ d' = d
    · obtain ⟨rfl, rfl⟩ := hq
      rw [hs, if_pos ⟨rfl, rfl⟩]
      show some (upd (Ai 10) a x a) = _
      rw [pk_us]
    · rw [if_neg hq]
      rcases hs2 : fs_s (mr_p Ai Aj l' d') 0 ne with _ | k1
      · rfl
      · have h1 := (fs_lt hs2).2.2
        unfold mr_p at h1
        simp only [Bool.and_eq_true, decide_eq_true_eq] at h1
        show some (upd (Ai 10) a x k1) = some (Ai 10 k1)
        rw [pk_un (fun e => by rw [e] at h1; exact hq ⟨h1.1.symm.trans hkey.1, h1.2.symm.trans hkey.2⟩)]
/-- the class's words of a line after one more -/
def dw_put (d x : Int32) (l : List (Int32 × Int32)) : List (Int32 × Int32) := match dw_get l d with
  | some _ => dw_set d x l
  | none => (d, x) :: l
theorem dw_get_put {d x : Int32} {l : List (Int32 × Int32)} (k : Int32) : dw_get (dw_put d x l) k = if k = d then some x else dw_get l k := by
  unfold dw_put
  rcases hs : dw_get l d with _ | y
  · show (if d = k then some x else dw_get l k) = _
    by_cases hk : k = d
    · rw [if_pos hk.symm, if_pos hk]
    · rw [if_neg (fun e => hk e.symm), if_neg hk]
  · dsimp only
    exact dw_get_set l (by rw [hs]; exact fun e => by cases e) k
def lr_dw (dw : Option Nat) (dl : List (Int32 × Int32)) : lr_T → lr_T := fun ((u, h), (La, Ra, Rd), (wd, n, _, lw), (f1, f2, f3), (_, ll)) => ((u, h), (La, Ra, Rd), (wd, n, dw, lw), (f1, f2, f3), (dl, ll))
theorem cpL_dw {Ai : Nat → Nat → Int32} {Aj : Nat → Nat → Int64} {ne nw l l' c d : Nat} {x : lr_T} {v : Int32} {dw : Option Nat} (hl : l ≤ 1000) (hl' : l' ≤ 1000) (hd : d ≤ 20000) (h : cpL Ai Aj ne nw l' c x) : cpL (mxA Ai (mf_at (fs_s (mr_p Ai Aj (nI l) (lN d)) 0 ne) ne) (nI l) v) (mxJ Aj (mf_at (fs_s (mr_p Ai Aj (nI l) (lN d)) 0 ne) ne) (lN d)) (mf_n (mf_at (fs_s (mr_p Ai Aj (nI l) (lN d)) 0 ne) ne) ne) nw l' c (if l' = l then lr_dw dw (dw_put (nI d) v x.2.2.2.2.1) x else x) := by
  obtain ⟨⟨u, h'⟩, ⟨La, Ra, Rd⟩, ⟨wd, n, dw0, lw⟩, ⟨f1, f2, f3⟩, ⟨dl, ll⟩⟩ := x
  have hget := fun d' => mx_get (Ai := Ai) (Aj := Aj) (ne := ne) (l := nI l) (l' := nI l') (x := v) (d := lN d) (d' := lN d')
  obtain ⟨a, ha⟩ : ∃ a, a = mf_at (fs_s (mr_p Ai Aj (nI l) (lN d)) 0 ne) ne := ⟨_, rfl⟩
  rw [← ha] at hget ⊢
  obtain ⟨g1, g2, g3, g4, g5, g6, g7⟩ := h
  dsimp only at g1 g3 g4 g5 g6 g7
  have e2 : mxA Ai a (nI l) v 2 = Ai 2 := by unfold mxA; rw [seqU_ne (by decide), seqU_ne (by decide)]
  have e4 : mxA Ai a (nI l) v 4 = Ai 4 := by unfold mxA; rw [seqU_ne (by decide), seqU_ne (by decide)]
  have e16 : mxA Ai a (nI l) v 16 = Ai 16 := by unfold mxA; rw [seqU_ne (by decide), seqU_ne (by decide)]
  have e17 : mxA Ai a (nI l) v 17 = Ai 17 := by unfold mxA; rw [seqU_ne (by decide), seqU_ne (by decide)]
  have e5 : mxJ Aj a (lN d) 5 = Aj 5 := by unfold mxJ; rw [seqJ_ne (by decide)]
  have e6 : mxJ Aj a (lN d) 6 = Aj 6 := by unfold mxJ; rw [seqJ_ne (by decide)]
  have e18 : mxJ Aj a (lN d) 18 = Aj 18 := by unfold mxJ; rw [seqJ_ne (by decide)]
  have e19 : mxJ Aj a (lN d) 19 = Aj 19 := by unfold mxJ; rw [seqJ_ne (by decide)]
  have hm : ∀ l' s d' k, ml_k (mxA Ai a (nI l) v) (mxJ Aj a (lN d)) l' s d' k = ml_k Ai Aj l' s d' k := fun l' s d' k => by
    induction k with
    | zero => rfl
    | succ k ih => unfold ml_k; rw [ih, e16, e17, e18, e19]
  have key : ∀ dl', (∀ d', d' ≤ 20000 → dw_get dl' (nI d') = if l' = l ∧ d' = d then some v else dw_get dl (nI d')) → ∀ dw', cpL (mxA Ai a (nI l) v) (mxJ Aj a (lN d)) (mf_n a ne) nw l' c ((u, h'), (La, Ra, Rd), (wd, n, dw', lw), (f1, f2, f3), (dl', ll)) := fun dl' hdl' dw' => by
    refine ⟨by rw [e2]; exact g1, g2, fun k hk => by rw [e4, e5, e6]; exact g3 k hk, fun d' hd' => ?_, g5, g6, fun d' s hd' hs => by rw [hm]; exact g7 d' s hd' hs⟩
    rw [hget]
    show dw_get dl' (nI d') = _
    rw [hdl' d' hd', g4 d' hd']
    by_cases hq : l' = l ∧ d' = d
    · rw [if_pos hq, if_pos ⟨by rw [hq.1], by rw [hq.2]⟩]
    · rw [if_neg hq, if_neg (fun e => hq ⟨ni_inj (by omega) (by omega) e.1, (lN_eq (by omega) (by omega)).mp e.2⟩)]
  by_cases hll : l' = l
  · rw [if_pos hll]
    refine key (dw_put (nI d) v dl) (fun d' hd' => ?_) dw
    rw [dw_get_put]
    by_cases hdd : d' = d
    · rw [if_pos (by rw [hdd]), if_pos ⟨hll, hdd⟩]
    · rw [if_neg (fun e => hdd (ni_inj (by omega) (by omega) e)), if_neg (fun e => hdd e.2)]
  · rw [if_neg hll]
    exact key dl (fun d' hd' => by rw [if_neg (fun e => hll e.1)]) dw0
/-! change -/
def lr_lw (lw : Option Nat) (q : Int32 × Int32 × Int32) : lr_T → lr_T := fun ((u, h), (La, Ra, Rd), (wd, n, dw, _), (f1, f2, f3), (dl, ll)) => ((u, h), (La, Ra, Rd), (wd, n, dw, lw), (f1, f2, f3), (dl, q :: ll))
theorem cpL_lw {Ai : Nat → Nat → Int32} {Aj : Nat → Nat → Int64} {ne nw l l' c s0 by0 d0 : Nat} {x : lr_T} {lw : Option Nat} (hnw : nw < 100) (hl : l ≤ 1000) (hl' : l' ≤ 1000) (hs0 : s0 < 12) (hb : by0 ≤ 100000) (hd0 : d0 ≤ 20000) (h : cpL Ai Aj ne nw l' c x) : cpL (seqU (seqU Ai 16 (upd (Ai 16) nw (nI l))) 17 (upd (Ai 17) nw (nI s0))) (seqJ (seqJ Aj 18 (vp_updL (Aj 18) nw (lN by0))) 19 (vp_updL (Aj 19) nw (lN d0))) ne (nw + 1) l' c (if l' = l then lr_lw lw (nI s0, nI by0, nI d0) x else x) := by
  obtain ⟨⟨u, h'⟩, ⟨La, Ra, Rd⟩, ⟨wd, n, dw0, lw0⟩, ⟨f1, f2, f3⟩, ⟨dl, ll⟩⟩ := x
  obtain ⟨A2, hA2⟩ : ∃ A2, A2 = seqU (seqU Ai 16 (upd (Ai 16) nw (nI l))) 17 (upd (Ai 17) nw (nI s0)) := ⟨_, rfl⟩
  obtain ⟨J2, hJ2⟩ : ∃ J2, J2 = seqJ (seqJ Aj 18 (vp_updL (Aj 18) nw (lN by0))) 19 (vp_updL (Aj 19) nw (lN d0)) := ⟨_, rfl⟩
  rw [← hA2, ← hJ2]
  obtain ⟨g1, g2, g3, g4, g5, g6, g7⟩ := h
  dsimp only at g1 g3 g4 g5 g6 g7
  have e2 : A2 2 = Ai 2 := by rw [hA2, seqU_ne (by decide), seqU_ne (by decide)]
  have e4 : A2 4 = Ai 4 := by rw [hA2, seqU_ne (by decide), seqU_ne (by decide)]
  have e8 : A2 8 = Ai 8 := by rw [hA2, seqU_ne (by decide), seqU_ne (by decide)]
  have e10 : A2 10 = Ai 10 := by rw [hA2, seqU_ne (by decide), seqU_ne (by decide)]
  have e16 : A2 16 = upd (Ai 16) nw (nI l) := by rw [hA2, seqU_ne (by decide), seqU_at]
  have e17 : A2 17 = upd (Ai 17) nw (nI s0) := by rw [hA2, seqU_at]
  have e5 : J2 5 = Aj 5 := by rw [hJ2, seqJ_ne (by decide), seqJ_ne (by decide)]
  have e6 : J2 6 = Aj 6 := by rw [hJ2, seqJ_ne (by decide), seqJ_ne (by decide)]
  have e9 : J2 9 = Aj 9 := by rw [hJ2, seqJ_ne (by decide), seqJ_ne (by decide)]
  have e18 : J2 18 = vp_updL (Aj 18) nw (lN by0) := by rw [hJ2, seqJ_ne (by decide), seqJ_at]
  have e19 : J2 19 = vp_updL (Aj 19) nw (lN d0) := by rw [hJ2, seqJ_at]
  have hpp : ∀ l' d, mr_p A2 J2 l' d = mr_p Ai Aj l' d := fun l' d => by
    funext k; unfold mr_p; rw [e8, e9]
  have hm : ∀ l' s d' k, k ≤ nw → ml_k A2 J2 l' s d' k = ml_k Ai Aj l' s d' k := fun l' s d' k => by
    induction k with
    | zero => intro _; rfl
    | succ k ih => intro hk; unfold ml_k; rw [ih (by omega), e16, e17, e18, e19, pk_un (by omega), pk_un (by omega), pk_uLn (by omega), pk_uLn (by omega)]
  have hmn : ∀ l' s d', ml_k A2 J2 l' s d' (nw + 1) = if nI l = l' ∧ lN d0 = d' ∧ nI s0 ≤ s then ml_k Ai Aj l' s d' nw + lN by0 else ml_k Ai Aj l' s d' nw := fun l' s d' => by
    rw [show ml_k A2 J2 l' s d' (nw + 1) = if A2 16 nw = l' ∧ J2 19 nw = d' ∧ A2 17 nw ≤ s then ml_k A2 J2 l' s d' nw + J2 18 nw else ml_k A2 J2 l' s d' nw from rfl, hm l' s d' nw (Nat.le_refl _), e16, e17, e18, e19, pk_us, pk_us, pk_uLs, pk_uLs]
  have hB := fun d j => wlI_bd (d := d) (j := j) ll g5
  have hlen : (ll.length : Int) ≤ 100 := by omega
  have hbT : (nI by0).toInt = by0 := nI_toInt (by omega)
  have hbL : (lN by0).toInt = by0 := lN_toInt (by omega)
  by_cases hll : l' = l
  · subst hll
    rw [if_pos rfl]
    refine ⟨by rw [e2]; exact g1, g2, fun k hk => by rw [e4, e5, e6]; exact g3 k hk, fun d' hd' => by rw [hpp, e10]; exact g4 d' hd', ?_, ?_, fun d' s hd' hs => ?_⟩
    · intro q hq
      rcases List.mem_cons.mp hq with rfl | hq
      · exact ⟨⟨s0, hs0, rfl⟩, by dsimp only; omega, by dsimp only; omega⟩
      · exact g5 q hq
    · show ll.length + 1 ≤ nw + 1; omega
    · rw [hmn]
      show (if nI d0 = nI d' ∧ nI s0 ≤ nI s then (nI by0).toInt else 0) + wlI (nI d') s ll = _
      have := hB (nI d') s
      have h8 := g7 d' s hd' hs
      by_cases hq : nI d0 = nI d' ∧ nI s0 ≤ nI s
      · rw [if_pos hq, if_pos ⟨rfl, by rw [ni_inj (by omega) (by omega) hq.1], hq.2⟩, i6_add (by omega) (by omega), hbT, hbL, h8]; omega
      · rw [if_neg hq, if_neg (fun e => hq ⟨by rw [(lN_eq (by omega) (by omega)).mp e.2.1], e.2.2⟩), h8]; omega
  · rw [if_neg hll]
    refine ⟨by rw [e2]; exact g1, g2, fun k hk => by rw [e4, e5, e6]; exact g3 k hk, fun d' hd' => by rw [hpp, e10]; exact g4 d' hd', g5, Nat.le_trans g6 (by omega), fun d' s hd' hs => ?_⟩
    rw [hmn, if_neg (fun e => hll (ni_inj (by omega) (by omega) e.1).symm)]
    exact g7 d' s hd' hs
/-! zone -/
def z_get (f : Int32) : List (Int32 × Int32) → Bool
  | [] => false
  | (e, _) :: l => if e = f then true else z_get f l
def z_set (f m : Int32) : List (Int32 × Int32) → List (Int32 × Int32)
  | [] => []
  | (e, y) :: l => if e = f then (e, m) :: l else (e, y) :: z_set f m l
def z_ins (f m : Int32) : List (Int32 × Int32) → List (Int32 × Int32)
  | [] => [(f, m)]
  | (e, y) :: l => if f < e then (e, y) :: z_ins f m l else (f, m) :: (e, y) :: l
def z_put (f m : Int32) (l : List (Int32 × Int32)) : List (Int32 × Int32) := if z_get f l = true then z_set f m l else z_ins f m l
theorem z_getI {f : Int32} : ∀ l : List (Int32 × Int32), z_get f l = true ↔ ∃ q ∈ l, q.1 = f
  | [] => ⟨fun h => absurd h Bool.noConfusion, fun ⟨_, h, _⟩ => absurd h List.not_mem_nil⟩
  | (e, y) :: l => by
    unfold z_get
    by_cases he : e = f
    · rw [if_pos he]; exact ⟨fun _ => ⟨(e, y), List.mem_cons_self, he⟩, fun _ => rfl⟩
    · rw [if_neg he, z_getI l]
      constructor
      · rintro ⟨q, h1, h2⟩; exact ⟨q, List.mem_cons_of_mem _ h1, h2⟩
      · rintro ⟨q, h1, h2⟩
        rcases List.mem_cons.mp h1 with rfl | h1
        · exact absurd h2 he
        · exact ⟨q, h1, h2⟩
theorem z_setM {f m : Int32} : ∀ l : List (Int32 × Int32), zDs l → z_get f l = true → ∀ q, q ∈ z_set f m l ↔ (q = (f, m) ∨ (q ∈ l ∧ q.1 ≠ f))
  | [], _, h, _ => by cases h
  | (e, y) :: l, hd, h, q => by
    obtain ⟨h1, h2⟩ := List.pairwise_cons.mp hd
    unfold z_set
    unfold z_get at h
    by_cases he : e = f
    · rw [if_pos he]
      subst he
      constructor
      · intro hq
        rcases List.mem_cons.mp hq with rfl | hq
        · exact Or.inl rfl
        · refine Or.inr ⟨List.mem_cons_of_mem _ hq, fun e2 => ?_⟩
          have := h1 q hq; rw [e2, i3_lt] at this; dsimp only at this; omega
      · rintro (rfl | ⟨hq, hne⟩)
        · exact List.mem_cons_self
        · rcases List.mem_cons.mp hq with rfl | hq
          · exact absurd rfl hne
          · exact List.mem_cons_of_mem _ hq
    · rw [if_neg he] at h ⊢
      constructor
      · intro hq
        rcases List.mem_cons.mp hq with rfl | hq
        · exact Or.inr ⟨List.mem_cons_self, he⟩
        · rcases (z_setM l h2 h q).mp hq with h3 | ⟨h3, h4⟩
          · exact Or.inl h3
          · exact Or.inr ⟨List.mem_cons_of_mem _ h3, h4⟩
      · rintro (h3 | ⟨hq, hne⟩)
        · exact List.mem_cons_of_mem _ ((z_setM l h2 h q).mpr (Or.inl h3))
        · rcases List.mem_cons.mp hq with rfl | hq
          · exact List.mem_cons_self
          · exact List.mem_cons_of_mem _ ((z_setM l h2 h q).mpr (Or.inr ⟨hq, hne⟩))
theorem z_setF {f m : Int32} : ∀ l : List (Int32 × Int32), (z_set f m l).map Prod.fst = l.map Prod.fst
  | [] => rfl
  | (e, y) :: l => by
    unfold z_set
    by_cases he : e = f
    · rw [if_pos he]; rfl
    · rw [if_neg he, List.map_cons, List.map_cons, z_setF l]
theorem zDs_F {l l' : List (Int32 × Int32)} (h : l'.map Prod.fst = l.map Prod.fst) (hd : zDs l) : zDs l' := by
  have h1 : (l.map Prod.fst).Pairwise (fun a b => b < a) := List.pairwise_map.mpr hd
  rw [← h] at h1
  exact List.pairwise_map.mp h1
theorem z_insM {f m : Int32} : ∀ (l : List (Int32 × Int32)) (q : Int32 × Int32), q ∈ z_ins f m l ↔ (q = (f, m) ∨ q ∈ l)
  | [], q => by
    unfold z_ins
    rw [List.mem_singleton]
    exact ⟨Or.inl, fun h => by rcases h with h | h; exact h; exact absurd h List.not_mem_nil⟩
  | (e, y) :: l, q => by
    unfold z_ins
    by_cases he : f < e
    · rw [if_pos he, List.mem_cons, z_insM l q, List.mem_cons]
      constructor
      · rintro (h | h | h)
        · exact Or.inr (Or.inl h)
        · exact Or.inl h
        · exact Or.inr (Or.inr h)
      · rintro (h | h | h)
        · exact Or.inr (Or.inl h)
        · exact Or.inl h
        · exact Or.inr (Or.inr h)
    · rw [if_neg he, List.mem_cons]
theorem z_insD {f m : Int32} : ∀ (l : List (Int32 × Int32)), zDs l → (∀ q ∈ l, q.1 ≠ f) → zDs (z_ins f m l)
  | [], _, _ => List.pairwise_singleton _ _
  | (e, y) :: l, hd, hn => by
    obtain ⟨h1, h2⟩ := List.pairwise_cons.mp hd
    have he0 : e ≠ f := hn (e, y) List.mem_cons_self
    unfold z_ins
    by_cases he : f < e
    · rw [if_pos he]
      refine List.pairwise_cons.mpr ⟨fun q hq => ?_, z_insD l h2 (fun q hq => hn q (List.mem_cons_of_mem _ hq))⟩
      rcases (z_insM l q).mp hq with rfl | hq
      · exact he
      · exact h1 q hq
    · rw [if_neg he]
      have hlt : e < f := by rw [i3_lt] at *; rw [ne_eq, i3_eq] at he0; omega
      refine List.pairwise_cons.mpr ⟨fun q hq => ?_, hd⟩
      rcases List.mem_cons.mp hq with rfl | hq
      · exact hlt
      · have := h1 q hq; rw [i3_lt] at *; dsimp only at *; omega
theorem z_putM {f m : Int32} {l : List (Int32 × Int32)} (hd : zDs l) (q : Int32 × Int32) : q ∈ z_put f m l ↔ (q = (f, m) ∨ (q ∈ l ∧ q.1 ≠ f)) := by
  unfold z_put
  by_cases hg : z_get f l = true
  · rw [if_pos hg]; exact z_setM l hd hg q
  · rw [if_neg hg, z_insM]
    constructor
    · rintro (h | h)
      · exact Or.inl h
      · exact Or.inr ⟨h, fun e => hg ((z_getI l).mpr ⟨q, h, e⟩)⟩
    · rintro (h | h)
      · exact Or.inl h
      · exact Or.inr h.1
theorem z_putD {f m : Int32} {l : List (Int32 × Int32)} (hd : zDs l) : zDs (z_put f m l) := by
  unfold z_put
  by_cases hg : z_get f l = true
  · rw [if_pos hg]; exact zDs_F (z_setF l) hd
  · rw [if_neg hg]; exact z_insD l hd (fun q hq e => hg ((z_getI l).mpr ⟨q, hq, e⟩))
def mzA (Ai : Nat → Nat → Int32) (a : Nat) (p m : Int32) : Nat → Nat → Int32 := seqU (seqU Ai 12 (upd (Ai 12) a p)) 14 (upd (Ai 14) a m)
def mzJ (Aj : Nat → Nat → Int64) (a : Nat) (f : Int64) : Nat → Nat → Int64 := seqJ Aj 13 (vp_updL (Aj 13) a f)
/-- where the row goes: an old place of its own, or the next one -/
theorem mz_at {Ai : Nat → Nat → Int32} {Aj : Nat → Nat → Int64} {nz : Nat} {p : Int32} {f : Int64} : (mz_a Ai Aj p f nz < nz ∧ mf_n (mz_a Ai Aj p f nz) nz = nz ∧ Ai 12 (mz_a Ai Aj p f nz) = p ∧ Aj 13 (mz_a Ai Aj p f nz) = f) ∨ (mz_a Ai Aj p f nz = nz ∧ mf_n (mz_a Ai Aj p f nz) nz = nz + 1 ∧ ∀ k, k < nz → ¬ (Ai 12 k = p ∧ Aj 13 k = f)) := by
  unfold mz_a
  rcases hs : fs_s (mz_p Ai Aj p f) 0 nz with _ | k
  · right
    refine ⟨rfl, if_pos rfl, fun k hk e => ?_⟩
    have := fs_none hs k (by omega) (by omega)
    unfold mz_p at this
    rw [decide_eq_true e.1, decide_eq_true e.2] at this
    exact Bool.noConfusion this
  · left
    have h1 := fs_lt hs
    have h2 := h1.2.2
    unfold mz_p at h2
    simp only [Bool.and_eq_true, decide_eq_true_eq] at h2
    exact ⟨by show k < nz; omega, if_neg (by show ¬ k = nz; omega), h2⟩
theorem cpZ_put {Ai : Nat → Nat → Int32} {Aj : Nat → Nat → Int64} {nz p p' f : Nat} {m : Int32} {l : List (Int32 × Int32)} (hp : p < 100) (hp' : p' < 100) (hf : f ≤ 2000000000) (hm : -900 ≤ m.toInt ∧ m.toInt ≤ 900) (hU : ∀ j k, j < nz → k < nz → Ai 12 j = Ai 12 k → Aj 13 j = Aj 13 k → j = k) (h : cpZ Ai Aj nz p' l) : cpZ (mzA Ai (mz_a Ai Aj (nI p) (lN f) nz) (nI p) m) (mzJ Aj (mz_a Ai Aj (nI p) (lN f) nz) (lN f)) (mf_n (mz_a Ai Aj (nI p) (lN f) nz) nz) p' (if p' = p then z_put (nI f) m l else l) := by
  have hat := mz_at (Ai := Ai) (Aj := Aj) (nz := nz) (p := nI p) (f := lN f)
  obtain ⟨a, ha⟩ : ∃ a, a = mz_a Ai Aj (nI p) (lN f) nz := ⟨_, rfl⟩
  rw [← ha] at hat ⊢
  obtain ⟨h1, h2, h3, h4⟩ := h
  have e12 : mzA Ai a (nI p) m 12 = upd (Ai 12) a (nI p) := by unfold mzA; rw [seqU_ne (by decide), seqU_at]
  have e14 : mzA Ai a (nI p) m 14 = upd (Ai 14) a m := by unfold mzA; rw [seqU_at]
  have e13 : mzJ Aj a (lN f) 13 = vp_updL (Aj 13) a (lN f) := by unfold mzJ; rw [seqJ_at]
  have hfT : (nI f).toInt = f := nI_toInt (by omega)
  have hfL : (lN f).toInt = f := lN_toInt (by omega)
  have hn' : a < mf_n a nz ∧ ∀ k, k ≠ a → (k < mf_n a nz ↔ k < nz) := by
    rcases hat with ⟨b1, b2, _⟩ | ⟨b1, b2, _⟩
    · rw [b2]; exact ⟨b1, fun _ _ => Iff.rfl⟩
    · rw [b2]; exact ⟨by omega, fun k hk => by omega⟩
  have hother : ∀ k, k < nz → k ≠ a → ¬ (Ai 12 k = nI p ∧ (Aj 13 k).toInt = f) := fun k hk hka e => by
    have e2 : Aj 13 k = lN f := i6_eq.mpr (by rw [hfL]; exact e.2)
    rcases hat with ⟨b1, _, b3, b4⟩ | ⟨_, _, b3⟩
    · exact hka (hU k a hk b1 (e.1.trans b3.symm) (e2.trans b4.symm))
    · exact b3 k hk ⟨e.1, e2⟩
  unfold cpZ
  rw [e12, e13, e14]
  by_cases hpp : p' = p
  · subst hpp
    rw [if_pos rfl]
    refine ⟨z_putD h1, fun q hq => ?_, fun k hk hkp => ?_, fun q hq => ?_⟩
    · rcases (z_putM h1 q).mp hq with rfl | ⟨hq, _⟩
      · exact ⟨by dsimp only; omega, hm⟩
      · exact h2 q hq
    · by_cases hka : k = a
      · subst hka
        rw [pk_us, pk_uLs]
        exact ⟨nI f, (z_putM h1 _).mpr (Or.inl rfl), by rw [hfT, hfL]⟩
      · rw [pk_un hka] at hkp ⊢
        rw [pk_uLn hka]
        have hk' := (hn'.2 k hka).mp hk
        obtain ⟨g, hg1, hg2⟩ := h3 k hk' hkp
        refine ⟨g, (z_putM h1 _).mpr (Or.inr ⟨hg1, fun e => ?_⟩), hg2⟩
        dsimp only at e
        exact hother k hk' hka ⟨hkp, by rw [← hg2, e, hfT]⟩
    · rcases (z_putM h1 q).mp hq with rfl | ⟨hq, hne⟩
      · refine ⟨a, hn'.1, ?_⟩
        rw [pk_us, pk_us, pk_uLs]
        exact ⟨rfl, by dsimp only; rw [hfT, hfL], rfl⟩
      · obtain ⟨k, hk, k1, k2, k3⟩ := h4 q hq
        have hka : k ≠ a := fun e => by
          rcases hat with ⟨b1, _, b3, b4⟩ | ⟨b1, _, _⟩
          · rw [e, b4, hfL] at k2
            exact hne (i3_eq.mpr (by rw [hfT]; exact k2.symm))
          · omega
        refine ⟨k, (hn'.2 k hka).mpr hk, ?_⟩
        rw [pk_un hka, pk_un hka, pk_uLn hka]
        exact ⟨k1, k2, k3⟩
  · rw [if_neg hpp]
    refine ⟨h1, h2, fun k hk hkp => ?_, fun q hq => ?_⟩
    · have hka : k ≠ a := fun e => by
        rw [e, pk_us] at hkp
        exact hpp (ni_inj (by omega) (by omega) hkp).symm
      rw [pk_un hka] at hkp ⊢
      rw [pk_uLn hka]
      exact h3 k ((hn'.2 k hka).mp hk) hkp
    · obtain ⟨k, hk, k1, k2, k3⟩ := h4 q hq
      have hka : k ≠ a := fun e => by
        rcases hat with ⟨b1, _, b3, b4⟩ | ⟨b1, _, _⟩
        · rw [e, b3] at k1
          exact hpp (ni_inj (by omega) (by omega) k1).symm
        · omega
      refine ⟨k, (hn'.2 k hka).mpr hk, ?_⟩
      rw [pk_un hka, pk_un hka, pk_uLn hka]
      exact ⟨k1, k2, k3⟩
/-- the class finds a row just where the reference does -/
theorem cpZ_get {Ai : Nat → Nat → Int32} {Aj : Nat → Nat → Int64} {nz p f : Nat} {l : List (Int32 × Int32)} (hf : f ≤ 2000000000) (h : cpZ Ai Aj nz p l) : z_get (nI f) l = true ↔ mz_a Ai Aj (nI p) (lN f) nz < nz := by
  obtain ⟨h1, h2, h3, h4⟩ := h
  have hfT : (nI f).toInt = f := nI_toInt (by omega)
  have hfL : (lN f).toInt = f := lN_toInt (by omega)
  rw [z_getI]
  constructor
  · rintro ⟨q, hq, e⟩
    obtain ⟨k, hk, k1, k2, k3⟩ := h4 q hq
    rcases mz_at (Ai := Ai) (Aj := Aj) (nz := nz) (p := nI p) (f := lN f) with ⟨b1, _⟩ | ⟨_, _, b3⟩
    · exact b1
    · exact absurd ⟨k1, i6_eq.mpr (by rw [hfL, k2, e, hfT])⟩ (b3 k hk)
  · intro hlt
    rcases mz_at (Ai := Ai) (Aj := Aj) (nz := nz) (p := nI p) (f := lN f) with ⟨b1, _, b3, b4⟩ | ⟨b1, _, _⟩
    · obtain ⟨g, hg1, hg2⟩ := h3 _ b1 b3
      exact ⟨_, hg1, i3_eq.mpr (by dsimp only; rw [hg2, b4, hfL, hfT])⟩
    · omega
theorem mz_cc {Z Z' : Nat → Int32} {p : Int32} : ∀ n, (∀ k, k < n → (Z' k = p ↔ Z k = p)) → mz_c Z' p n = mz_c Z p n
  | 0, _ => rfl
  | n + 1, h => by
    unfold mz_c
    rw [mz_cc n (fun k hk => h k (by omega))]
    by_cases hq : Z n = p
    · rw [if_pos hq, if_pos ((h n (by omega)).mpr hq)]
    · rw [if_neg hq, if_neg (fun e => hq ((h n (by omega)).mp e))]
/-- how many rows a place has -/
theorem mz_cput {Ai : Nat → Nat → Int32} {Aj : Nat → Nat → Int64} {nz : Nat} {p p' : Int32} {f : Int64} : mz_c (upd (Ai 12) (mz_a Ai Aj p f nz) p) p' (mf_n (mz_a Ai Aj p f nz) nz) = if p' = p ∧ mz_a Ai Aj p f nz = nz then mz_c (Ai 12) p' nz + 1 else mz_c (Ai 12) p' nz := by
  rcases mz_at (Ai := Ai) (Aj := Aj) (nz := nz) (p := p) (f := f) with ⟨b1, b2, b3, b4⟩ | ⟨b1, b2, b3⟩
  · rw [b2, if_neg (fun e => by omega)]
    refine mz_cc nz (fun k hk => ?_)
    by_cases hka : k = mz_a Ai Aj p f nz
    · rw [hka, pk_us, b3]
    · rw [pk_un hka]
  · rw [b2, b1]
    show (if upd (Ai 12) nz p nz = p' then mz_c (upd (Ai 12) nz p) p' nz + 1 else mz_c (upd (Ai 12) nz p) p' nz) = _
    rw [pk_us, mz_cc nz (fun k hk => by rw [pk_un (by omega)])]
    by_cases hq : p' = p
    · rw [if_pos hq.symm, if_pos ⟨hq, rfl⟩]
    · rw [if_neg (fun e => hq e.symm), if_neg (fun e => hq e.1)]
theorem cpU_z {Ai : Nat → Nat → Int32} {Aj : Nat → Nat → Int64} {nz : Nat} {p m : Int32} {f : Int64} (hU : ∀ j k, j < nz → k < nz → Ai 12 j = Ai 12 k → Aj 13 j = Aj 13 k → j = k) : ∀ j k, j < mf_n (mz_a Ai Aj p f nz) nz → k < mf_n (mz_a Ai Aj p f nz) nz → mzA Ai (mz_a Ai Aj p f nz) p m 12 j = mzA Ai (mz_a Ai Aj p f nz) p m 12 k → mzJ Aj (mz_a Ai Aj p f nz) f 13 j = mzJ Aj (mz_a Ai Aj p f nz) f 13 k → j = k := by
  have hat := mz_at (Ai := Ai) (Aj := Aj) (nz := nz) (p := p) (f := f)
  obtain ⟨a, ha⟩ : ∃ a, a = mz_a Ai Aj p f nz := ⟨_, rfl⟩
  rw [← ha] at hat ⊢
  have e12 : mzA Ai a p m 12 = upd (Ai 12) a p := by unfold mzA; rw [seqU_ne (by decide), seqU_at]
  have e13 : mzJ Aj a f 13 = vp_updL (Aj 13) a f := by unfold mzJ; rw [seqJ_at]
  rw [e12, e13]
  rcases hat with ⟨b1, b2, b3, b4⟩ | ⟨b1, b2, b3⟩
  · rw [b2]
    have s1 : upd (Ai 12) a p = Ai 12 := by
      funext x; by_cases hx : x = a
      · rw [hx, pk_us, b3]
      · rw [pk_un hx]
    have s2 : vp_updL (Aj 13) a f = Aj 13 := by
      funext x; by_cases hx : x = a
      · rw [hx, pk_uLs, b4]
      · rw [pk_uLn hx]
    rw [s1, s2]; exact hU
  · rw [b2]
    subst b1
    intro j k hj hk h1 h2
    by_cases hja : j = a <;> by_cases hka : k = a
    · omega
    · subst hja
      rw [pk_us, pk_un hka] at h1
      rw [pk_uLs, pk_uLn hka] at h2
      exact absurd ⟨h1.symm, h2.symm⟩ (b3 k (by omega))
    · subst hka
      rw [pk_us, pk_un hja] at h1
      rw [pk_uLs, pk_uLn hja] at h2
      exact absurd ⟨h1, h2⟩ (b3 j (by omega))
    · rw [pk_un hja, pk_un hka] at h1
      rw [pk_uLn hja, pk_uLn hka] at h2
      exact hU j k (by omega) (by omega) h1 h2
