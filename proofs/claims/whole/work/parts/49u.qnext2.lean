/-- a fold of leavings over a list; the list's times are those of the reference's legs -/
def qF (w : Nat) (F : Nat × (Nat → Int32) → Nat × (Nat → Int32)) (ml : List (Nat → Int64)) : Prop := ∃ cl : List Int32, (∀ s, F s = cl.foldl (fun s b => lv_nt w b s) s) ∧ cl.map Int32.toInt = ml.map (fun y => (y 0).toInt)
theorem qF_0 {w : Nat} : qF w (fun s => s) [] := ⟨[], fun _ => rfl, rfl⟩
theorem qF_c {w : Nat} {F F2 : Nat × (Nat → Int32) → Nat × (Nat → Int32)} {ml ml2 : List (Nat → Int64)} (h : qF w F ml) (h2 : qF w F2 ml2) : qF w (fun s => F2 (F s)) (ml ++ ml2) := by
  obtain ⟨c1, h3, h4⟩ := h
  obtain ⟨c2, h5, h6⟩ := h2
  exact ⟨c1 ++ c2, fun s => by show F2 (F s) = _; rw [List.foldl_append, h5, h3], by rw [List.map_append, List.map_append, h4, h6]⟩
theorem qF_e {w : Nat} {F F2 : Nat × (Nat → Int32) → Nat × (Nat → Int32)} {ml ml2 : List (Nat → Int64)} (h : qF w F ml) (h1 : ∀ s, F2 s = F s) (h2 : ml2 = ml) : qF w F2 ml2 := by
  subst h2
  obtain ⟨c1, h3, h4⟩ := h
  exact ⟨c1, fun s => (h1 s).trans (h3 s), h4⟩
section
variable {L : Nat → lr_T} {nl : Nat} {fd : Int32} {Z : Nat → List (Int32 × Int32)} {C : Nat → Int32} {Ai : Nat → Nat → Int32} {Aj : Nat → Nat → Int64} {ne nz nw : Nat} {cn : Nat → Nat} {from' to T w : Nat}
theorem q_gj {l r i : Nat} {f1 A : Nat → Int32} {b : Int32} {fi fo : Nat → Int64} {n : Nat} (hf : ∀ k, k < n → f1 k = Ai 4 (12 * l + k)) (hA : ∀ k, k < n → (A k).toInt = (fi k).toInt) (hb : b.toInt = (fo i).toInt) : ∀ m j, j + m ≤ n → qF w (gt_j w f1 A to b j m) (mg_j Ai to T l r i fi fo j m)
  | 0, j, _ => qF_0
  | m + 1, j, hj => by
    refine qF_e (qF_c (ml := if Ai 4 (12 * l + j) = nI to ∧ fo i ≤ fi j then [mg_pr T l r i j fi fo] else []) (F := fun s => if f1 j = nI to ∧ b ≤ A j then lv_nt w b s else s) ?_ (q_gj hf hA hb m (j + 1) (by omega))) (fun s => rfl) rfl
    have hiff : (f1 j = nI to ∧ b ≤ A j) ↔ (Ai 4 (12 * l + j) = nI to ∧ fo i ≤ fi j) := by
      rw [hf j (by omega), i3_le, i6_le, hA j (by omega), hb]
    by_cases hq : Ai 4 (12 * l + j) = nI to ∧ fo i ≤ fi j
    · rw [if_pos hq]
      refine ⟨[b], fun s => if_pos (hiff.mpr hq), ?_⟩
      show [b.toInt] = [(fo i).toInt]
      rw [hb]
    · rw [if_neg hq]
      exact ⟨[], fun s => if_neg (fun e => hq (hiff.mp e)), rfl⟩
theorem q_gi {l r : Nat} {f1 A B : Nat → Int32} {fi fo : Nat → Int64} (hT : T ≤ 1700000000) (hf : ∀ k, k < cn l → f1 k = Ai 4 (12 * l + k)) (hA : ∀ k, k < cn l → (A k).toInt = (fi k).toInt) (hB : ∀ k, k < cn l → (B k).toInt = (fo k).toInt) : ∀ m i, i + m ≤ cn l → qF w (gt_i w f1 A B (cn l) from' to (nI T) i m) (mg_i Ai cn from' to T l r fi fo i m)
  | 0, i, _ => qF_0
  | m + 1, i, hi => by
    refine qF_e (qF_c (ml := if Ai 4 (12 * l + i) = nI from' ∧ lN T ≤ fo i then mg_j Ai to T l r i fi fo (i + 1) (cn l - (i + 1)) else []) (F := fun s => if f1 i = nI from' ∧ nI T ≤ B i then gt_j w f1 A to (B i) (i + 1) (cn l - (i + 1)) s else s) ?_ (q_gi hT hf hA hB m (i + 1) (by omega))) (fun s => rfl) rfl
    have hiff : (f1 i = nI from' ∧ nI T ≤ B i) ↔ (Ai 4 (12 * l + i) = nI from' ∧ lN T ≤ fo i) := by
      rw [hf i (by omega), i3_le, i6_le, hB i (by omega), nI_toInt (by omega), lN_toInt (by omega)]
    by_cases hq : Ai 4 (12 * l + i) = nI from' ∧ lN T ≤ fo i
    · rw [if_pos hq]
      exact qF_e (q_gj (n := cn l) hf hA (hB i (by omega)) (cn l - (i + 1)) (i + 1) (by omega)) (fun s => if_pos (hiff.mpr hq)) rfl
    · rw [if_neg hq]
      exact ⟨[], fun s => if_neg (fun e => hq (hiff.mp e)), rfl⟩
theorem mg_d_sn {l : Nat} : ∀ m r, mg_d Ai Aj ne nz nw cn from' to T l r (m + 1) = mg_d Ai Aj ne nz nw cn from' to T l r m ++ (if mr_run Ai Aj ne l (dy T (r + m)) = 1 then mg_i Ai cn from' to T l (r + m) (fun k => mt_t Ai Aj nz nw l (dy T (r + m)) k false) (fun k => mt_t Ai Aj nz nw l (dy T (r + m)) k true) 0 (cn l) else [])
  | 0, r => by
    rw [show mg_d Ai Aj ne nz nw cn from' to T l r (0 + 1) = (if mr_run Ai Aj ne l (dy T r) = 1 then mg_i Ai cn from' to T l r (fun k => mt_t Ai Aj nz nw l (dy T r) k false) (fun k => mt_t Ai Aj nz nw l (dy T r) k true) 0 (cn l) else []) ++ mg_d Ai Aj ne nz nw cn from' to T l (r + 1) 0 from rfl]
    rw [show mg_d Ai Aj ne nz nw cn from' to T l (r + 1) 0 = [] from rfl, show mg_d Ai Aj ne nz nw cn from' to T l r 0 = [] from rfl, List.append_nil, List.nil_append, Nat.add_zero]
  | m + 1, r => by
    rw [show mg_d Ai Aj ne nz nw cn from' to T l r (m + 1 + 1) = (if mr_run Ai Aj ne l (dy T r) = 1 then mg_i Ai cn from' to T l r (fun k => mt_t Ai Aj nz nw l (dy T r) k false) (fun k => mt_t Ai Aj nz nw l (dy T r) k true) 0 (cn l) else []) ++ mg_d Ai Aj ne nz nw cn from' to T l (r + 1) (m + 1) from rfl, mg_d_sn m (r + 1), ← List.append_assoc, show r + 1 + m = r + (m + 1) by omega]
    rfl
theorem mg_l_sn : ∀ m l, mg_l Ai Aj ne nz nw cn from' to T l (m + 1) = mg_l Ai Aj ne nz nw cn from' to T l m ++ mg_d Ai Aj ne nz nw cn from' to T (l + m) 0 13
  | 0, l => by
    rw [show mg_l Ai Aj ne nz nw cn from' to T l (0 + 1) = mg_d Ai Aj ne nz nw cn from' to T l 0 13 ++ mg_l Ai Aj ne nz nw cn from' to T (l + 1) 0 from rfl]
    rw [show mg_l Ai Aj ne nz nw cn from' to T (l + 1) 0 = [] from rfl, show mg_l Ai Aj ne nz nw cn from' to T l 0 = [] from rfl, List.append_nil, List.nil_append, Nat.add_zero]
  | m + 1, l => by
    rw [show mg_l Ai Aj ne nz nw cn from' to T l (m + 1 + 1) = mg_d Ai Aj ne nz nw cn from' to T l 0 13 ++ mg_l Ai Aj ne nz nw cn from' to T (l + 1) (m + 1) from rfl, mg_l_sn m (l + 1), ← List.append_assoc, show l + 1 + m = l + (m + 1) by omega]
    rfl
theorem q_gl (hT : T ≤ 1700000000) (hcp : qCp L nl fd Z C Ai Aj ne nz nw cn T) {i : Nat} (hi : i < nl) : ∀ r, r ≤ 13 → qF w (fun s => ga_l (L i) fd Z w from' to (nI T) s r) (mg_d Ai Aj ne nz nw cn from' to T i 0 r)
  | 0, _ => qF_0
  | r + 1, hr => by
    obtain ⟨c1, c2, c3⟩ := hcp.1 i hi
    obtain ⟨d1, d2⟩ := c3 r (by omega)
    rw [mg_d_sn, Nat.zero_add]
    refine qF_e (qF_c (q_gl hT hcp hi r (by omega)) (F2 := fun s => ga_r (L i) fd Z w from' to (nI T) r s) ?_) (fun s => rfl) rfl
    by_cases hq : mr_run Ai Aj ne i (dy T r) = 1
    · rw [if_pos hq]
      have d3 := d2 hq
      refine qF_e (q_gi hT c2 (fun k hk => (d3 k hk).1) (fun k hk => (d3 k hk).2) (cn i) 0 (by omega)) (fun s => ?_) rfl
      unfold ga_r
      rw [if_pos (d1.mpr hq), c1]
    · rw [if_neg hq]
      refine ⟨[], fun s => ?_, rfl⟩
      exact if_neg (fun e => hq (d1.mp e))
theorem q_gn (hT : T ≤ 1700000000) (hcp : qCp L nl fd Z C Ai Aj ne nz nw cn T) : ∀ i, i ≤ nl → qF w (fun s => ga_n L fd Z w from' to (nI T) s i) (mg_l Ai Aj ne nz nw cn from' to T 0 i)
  | 0, _ => qF_0
  | i + 1, hi => by
    rw [mg_l_sn, Nat.zero_add]
    exact qF_e (qF_c (q_gn hT hcp i (by omega)) (q_gl hT hcp (show i < nl by omega) 13 (Nat.le_refl _))) (fun s => rfl) rfl
/-! the legs are told apart by line, day, entered, left -/
theorem vD_app {l1 l2 : List (Nat → Int64)} (h1 : vDs l1) (h2 : vDs l2) (h : ∀ a ∈ l1, ∀ b ∈ l2, ¬ vEq a b) : vDs (l1 ++ l2) := List.pairwise_append.mpr ⟨h1, h2, h⟩
theorem mj_mem {l r i : Nat} {fi fo : Nat → Int64} {p : Nat → Int64} : ∀ m j, p ∈ mg_j Ai to T l r i fi fo j m → ∃ j', j ≤ j' ∧ j' < j + m ∧ p = mg_pr T l r i j' fi fo
  | 0, j, h => absurd h List.not_mem_nil
  | m + 1, j, h => by
    unfold mg_j at h
    rcases List.mem_append.mp h with h | h
    · split at h
      · rcases List.mem_singleton.mp h with rfl
        exact ⟨j, by omega, by omega, rfl⟩
      · exact absurd h List.not_mem_nil
    · obtain ⟨j', h1, h2, h3⟩ := mj_mem m (j + 1) h
      exact ⟨j', by omega, by omega, h3⟩
theorem mi_mem {l r : Nat} {fi fo : Nat → Int64} {p : Nat → Int64} : ∀ m i, i + m ≤ 12 → cn l ≤ 12 → p ∈ mg_i Ai cn from' to T l r fi fo i m → ∃ i' j', i ≤ i' ∧ i' < i + m ∧ j' < 12 ∧ p = mg_pr T l r i' j' fi fo
  | 0, i, _, _, h => absurd h List.not_mem_nil
  | m + 1, i, hi, hc, h => by
    unfold mg_i at h
    rcases List.mem_append.mp h with h | h
    · split at h
      · obtain ⟨j', h1, h2, h3⟩ := mj_mem _ _ h
        exact ⟨i, j', by omega, by omega, by omega, h3⟩
      · exact absurd h List.not_mem_nil
    · obtain ⟨i', j', h1, h2, h3⟩ := mi_mem m (i + 1) (by omega) hc h
      exact ⟨i', j', by omega, by omega, h3⟩
theorem md_mem {l : Nat} {p : Nat → Int64} (hc : cn l ≤ 12) : ∀ m r, p ∈ mg_d Ai Aj ne nz nw cn from' to T l r m → p 2 = lN l ∧ ∃ r', r ≤ r' ∧ r' < r + m ∧ p 3 = dy T r'
  | 0, r, h => absurd h List.not_mem_nil
  | m + 1, r, h => by
    unfold mg_d at h
    rcases List.mem_append.mp h with h | h
    · split at h
      · obtain ⟨i', j', h1, h2, h3, rfl⟩ := mi_mem _ _ (by omega) hc h
        exact ⟨rfl, r, by omega, by omega, rfl⟩
      · exact absurd h List.not_mem_nil
    · obtain ⟨h0, r', h1, h2, h3⟩ := md_mem hc m (r + 1) h
      exact ⟨h0, r', by omega, by omega, h3⟩
theorem v_at {a b : Nat → Int64} (h : vEq a b) (k : Nat) (hk : k < 6) : a k = b k := (mo_eq 6 0).mp h k (by omega) (by omega)
theorem mj_ds {l r i : Nat} {fi fo : Nat → Int64} : ∀ m j, j + m ≤ 12 → vDs (mg_j Ai to T l r i fi fo j m)
  | 0, j, _ => List.Pairwise.nil
  | m + 1, j, hj => by
    unfold mg_j
    refine vD_app ?_ (mj_ds m (j + 1) (by omega)) (fun a ha b hb he => ?_)
    · split
      · exact List.pairwise_singleton _ _
      · exact List.Pairwise.nil
    · split at ha
      · rcases List.mem_singleton.mp ha with rfl
        obtain ⟨j', h1, h2, rfl⟩ := mj_mem _ _ hb
        have := (lN_eq (a := j) (b := j') (by omega) (by omega)).mp (v_at he 5 (by omega))
        omega
      · exact absurd ha List.not_mem_nil
theorem mi_ds {l r : Nat} {fi fo : Nat → Int64} (hc : cn l ≤ 12) : ∀ m i, i + m ≤ cn l → vDs (mg_i Ai cn from' to T l r fi fo i m)
  | 0, i, _ => List.Pairwise.nil
  | m + 1, i, hi => by
    unfold mg_i
    refine vD_app ?_ (mi_ds hc m (i + 1) (by omega)) (fun a ha b hb he => ?_)
    · split
      · exact mj_ds _ _ (by omega)
      · exact List.Pairwise.nil
    · split at ha
      · obtain ⟨j', h1, h2, rfl⟩ := mj_mem _ _ ha
        obtain ⟨i2, j2, h3, h4, h5, rfl⟩ := mi_mem _ _ (by omega) hc hb
        have := (lN_eq (a := i) (b := i2) (by omega) (by omega)).mp (v_at he 4 (by omega))
        omega
      · exact absurd ha List.not_mem_nil
theorem dy_ij {a b : Nat} (hT : T ≤ 1700000000) (ha : a ≤ 1000) (hb : b ≤ 1000) (h : dy T a = dy T b) : a = b := by
  rw [i6_eq, dy_toInt hT ha, dy_toInt hT hb] at h
  omega
theorem md_ds {l : Nat} (hT : T ≤ 1700000000) (hc : cn l ≤ 12) : ∀ m r, r + m ≤ 13 → vDs (mg_d Ai Aj ne nz nw cn from' to T l r m)
  | 0, r, _ => List.Pairwise.nil
  | m + 1, r, hr => by
    unfold mg_d
    refine vD_app ?_ (md_ds hT hc m (r + 1) (by omega)) (fun a ha b hb he => ?_)
    · split
      · exact mi_ds hc _ _ (by omega)
      · exact List.Pairwise.nil
    · split at ha
      · obtain ⟨i', j', h1, h2, h3, rfl⟩ := mi_mem _ _ (by omega) hc ha
        obtain ⟨_, r', h4, h5, h6⟩ := md_mem hc _ _ hb
        have := v_at he 3 (by omega)
        rw [h6] at this
        have := dy_ij hT (by omega) (by omega) this
        omega
      · exact absurd ha List.not_mem_nil
theorem ml_mem {p : Nat → Int64} : ∀ m l, (∀ i, i < l + m → cn i ≤ 12) → p ∈ mg_l Ai Aj ne nz nw cn from' to T l m → ∃ l', l ≤ l' ∧ l' < l + m ∧ p 2 = lN l'
  | 0, l, _, h => absurd h List.not_mem_nil
  | m + 1, l, hc, h => by
    unfold mg_l at h
    rcases List.mem_append.mp h with h | h
    · exact ⟨l, by omega, by omega, (md_mem (hc l (by omega)) _ _ h).1⟩
    · obtain ⟨l', h1, h2, h3⟩ := ml_mem m (l + 1) (fun i hi => hc i (by omega)) h
      exact ⟨l', by omega, by omega, h3⟩
theorem ml_ds (hT : T ≤ 1700000000) : ∀ m l, l + m ≤ 40 → (∀ i, i < l + m → cn i ≤ 12) → vDs (mg_l Ai Aj ne nz nw cn from' to T l m)
  | 0, l, _, _ => List.Pairwise.nil
  | m + 1, l, hl, hc => by
    unfold mg_l
    refine vD_app (md_ds hT (hc l (by omega)) 13 0 (by omega)) (ml_ds hT m (l + 1) (by omega) (fun i hi => hc i (by omega))) (fun a ha b hb he => ?_)
    have h1 := (md_mem (hc l (by omega)) _ _ ha).1
    obtain ⟨l', h2, h3, h4⟩ := ml_mem m (l + 1) (fun i hi => hc i (by omega)) hb
    have := v_at he 2 (by omega)
    rw [h1, h4] at this
    have := (lN_eq (by omega) (by omega)).mp this
    omega
/-- next: the class's answer is the reference's -/
theorem q_next (hT : T ≤ 1700000000) (hnl : nl ≤ 40) (hcn : ∀ i, i < nl → cn i ≤ 12) (hcp : qCp L nl fd Z C Ai Aj ne nz nw cn T) {n : Nat} {f : Nat → Int32} {t0 b0 : Nat → Int64} : mn_v (mn_k (mg_s Ai Aj ne nz nw cn from' to T nl) t0 b0 n) = if n < (ga_n L fd Z (n + 1) from' to (nI T) (0, f) nl).1 then (ga_n L fd Z (n + 1) from' to (nI T) (0, f) nl).2 n else -1 := by
  have hd := ml_ds (Ai := Ai) (Aj := Aj) (ne := ne) (nz := nz) (nw := nw) (from' := from') (to := to) (T := T) hT nl 0 (by omega) (fun i hi => hcn i (by omega))
  obtain ⟨cl, hF, hm⟩ := q_gn (w := n + 1) (from' := from') (to := to) hT hcp nl (Nat.le_refl _)
  have hI := lv_fold (w := n + 1) (by omega) cl [] (0, f) lv_0
  rw [← hF (0, f), List.nil_append, hm] at hI
  dsimp only at hI
  obtain ⟨k1, k2⟩ := mn_cnt hd (t0 := t0) (b0 := b0) n
  have hS : mg_s Ai Aj ne nz nw cn from' to T nl = fun tau first b => (mg_l Ai Aj ne nz nw cn from' to T 0 nl).foldl (mg_st tau first) (false, b) := rfl
  rw [hS]
  have hlen : ((mg_l Ai Aj ne nz nw cn from' to T 0 nl).map (fun y => (y 0).toInt)).length = (mg_l Ai Aj ne nz nw cn from' to T 0 nl).length := List.length_map _
  rcases hk : mn_k (fun tau first b => (mg_l Ai Aj ne nz nw cn from' to T 0 nl).foldl (mg_st tau first) (false, b)) t0 b0 n with _ | x
  · have := k1 hk
    have h1 := hI.1
    rw [hlen] at h1
    rw [if_neg (by omega)]
    rfl
  · obtain ⟨x1, x2⟩ := k2 x hk
    have hlt : n < (mg_l Ai Aj ne nz nw cn from' to T 0 nl).length := by
      rw [← x2]
      refine Nat.lt_of_lt_of_le ?_ (List.countP_le_length (p := fun y => decide (vLt y x) || decide (vEq y x)))
      rw [cp_add (Q := fun y => decide (vLt y x)) (R := fun y => decide (vEq y x)) _ (fun y _ => ⟨by rw [Bool.or_eq_true], by rw [decide_eq_true_iff, decide_eq_true_iff]; rintro ⟨h1, h2⟩; exact v_ne h1 h2⟩), cp_eq _ hd x1]
      exact Nat.lt_succ_self _
    have h1 := hI.1
    rw [hlen] at h1
    rw [if_pos (by omega)]
    obtain ⟨a1, a2⟩ := lv_k hI (k := n) (by omega) (by omega)
    obtain ⟨b1, b2⟩ := cB_k hd x1
    rw [x2] at b1 b2
    have := cB_un b1 b2 a1 a2
    show (x 0).toInt32 = _
    rw [i3_eq, ← this, Int64.toInt_toInt32, Int.bmod_eq_of_le]
    · have := (i3_bd ((ga_n L fd Z (n + 1) from' to (nI T) (0, f) nl).2 n)).1; omega
    · have := (i3_bd ((ga_n L fd Z (n + 1) from' to (nI T) (0, f) nl).2 n)).2; omega
end
