/-! LineTimes$Leavings.clear; LineTimes$Net.gatherRun and gather -/
def zo_mm (R : Room) (f : Int32 → Int32 → Int32) (K : pz_K) : pz_K := fun pc lv st g c s => match st with
  | .inl y :: .inl x :: r => 1 ≤ R.frames ∧ (r.map fun v => (pz_v v).category).sum + 13 ≤ R.locals ∧ c ≤ R.cells ∧ s ≤ R.slots ∧ K (pc + 3) lv (.inl (f x y) :: r) g c s
  | _ => False
theorem zs_mmin {X : pz_C} {cc : ByteArray} {nL : Nat} {own : String} {K : pz_K} {pc ix : Nat} (hX : pz_X X cc nL own) (hw1 : Cond.methodLink own ix Lib.Math.min.name ∈ pz_W) (hw2 : Cond.static Lib.Math.min.name ∈ pz_W) (hw3 : Cond.initialized "java/lang/Math" ∈ pz_W) (hw4 : Cond.code Lib.Math.min.name Lib.Math.min.code 2 (some .int) ∈ pz_W) (hd : decode cc pc = .ok (.invokestatic ix, 3)) (hk : ∀ lv st g c s, K (pc + 3) lv st g c s → pz_Z X nL (pc + 3) lv st g c s) : ∀ lv st g c s, zo_mm (pz_rm X) (fun x y => if y < x then y else x) K pc lv st g c s → pz_Z X nL pc lv st g c s := by
  obtain ⟨p, l, e, R, s, m, args, below, meth, c, Q, D, cy, A, En⟩ := X
  obtain ⟨hx, hb, hml, hown, hts, hK, hA, hOk, hEn⟩ := hX
  intro lv st g c0 s0 h ls H locs hl hP hS
  unfold zo_mm at h
  split at h
  · rename_i y x r
    obtain ⟨h1, h2, h3, h4, h⟩ := h
    exact va_mmin hx hb (hml.trans hl.1.symm) hown (hts _ hw1) (hts _ hw2) (hts _ hw3) (hts _ hw4) h1 (by rw [List.map_map]; exact h2) h3 h4 hd (hk _ _ _ _ _ h ls H locs hl hP hS)
  · exact h.elim
theorem zs_mmax {X : pz_C} {cc : ByteArray} {nL : Nat} {own : String} {K : pz_K} {pc ix : Nat} (hX : pz_X X cc nL own) (hw1 : Cond.methodLink own ix Lib.Math.max.name ∈ pz_W) (hw2 : Cond.static Lib.Math.max.name ∈ pz_W) (hw3 : Cond.initialized "java/lang/Math" ∈ pz_W) (hw4 : Cond.code Lib.Math.max.name Lib.Math.max.code 2 (some .int) ∈ pz_W) (hd : decode cc pc = .ok (.invokestatic ix, 3)) (hk : ∀ lv st g c s, K (pc + 3) lv st g c s → pz_Z X nL (pc + 3) lv st g c s) : ∀ lv st g c s, zo_mm (pz_rm X) (fun x y => if x < y then y else x) K pc lv st g c s → pz_Z X nL pc lv st g c s := by
  obtain ⟨p, l, e, R, s, m, args, below, meth, c, Q, D, cy, A, En⟩ := X
  obtain ⟨hx, hb, hml, hown, hts, hK, hA, hOk, hEn⟩ := hX
  intro lv st g c0 s0 h ls H locs hl hP hS
  unfold zo_mm at h
  split at h
  · rename_i y x r
    obtain ⟨h1, h2, h3, h4, h⟩ := h
    exact va_mmax hx hb (hml.trans hl.1.symm) hown (hts _ hw1) (hts _ hw2) (hts _ hw3) (hts _ hw4) h1 (by rw [List.map_map]; exact h2) h3 h4 hd (hk _ _ _ _ _ h ls H locs hl hP hS)
  · exact h.elim
set_option maxRecDepth 20000 in
theorem bX2_clear_0 {X : pz_C} {rm : Room} {E : Option pz_V → pz_H → Prop} (hX : pz_X X cX2_clear 2 RX2) (hR : pz_Rt X cX2_clear 2 none rm E) (hrm : pz_rm X = rm) : ∀ lv st g c s, (zo_al 1 0 (zo_il 1 1 (zo_al 1 0 (zo_get 4 0 (zo_alen (zo_mm rm (fun x y => if y < x then y else x) (zo_puti 4 2 (zo_al 1 0 (zo_ic 1 (0) (zo_puti 4 1 (zo_rv rm E))))))))))) 0 lv st g c s → pz_Z X 2 0 lv st g c s := by
  subst hrm
  exact (zs_aload_n hX dX2_clear_0 rfl (zs_iload_n hX dX2_clear_1 rfl (zs_aload_n hX dX2_clear_2 rfl (zs_get hX (C := RX2) (T := TX2) (N := 3) rfl in_X2 (by decide) mw_73b11fd4 dX2_clear_3 (zs_alen hX dX2_clear_6 (zs_mmin hX mw_79f98940 mw_69f65be3 mw_6c163f40 mw_d60f6dfd dX2_clear_7 (zs_puti hX (C := RX2) (T := TX2) (N := 3) rfl in_X2 (by decide) mw_ace7bf61 tyX2 tyX2_ok nmX2 (by decide +kernel) rfl dX2_clear_10 (zs_aload_n hX dX2_clear_13 rfl (zs_iconst hX dX2_clear_14 (by decide) (zs_puti hX (C := RX2) (T := TX2) (N := 3) rfl in_X2 (by decide) mw_78ccfceb tyX2 tyX2_ok nmX2 (by decide +kernel) rfl dX2_clear_15 (zs_rv hR dX2_clear_18)))))))))))
def rm_X2_clear : Room := { frames := 1, cells := 0, slots := 0, locals := 21 }
abbrev gt_X2_clear : Type := (Nat × Nat) × Nat × (Int32 × Int32) × (Nat → Int32)
def pr_X2_clear : gt_X2_clear → List pz_V → pz_H → Prop := fun ((l, w), ti, (c0, w0), f) av g => av = [.inr (.inr (some l)), .inl (nI w)] ∧ w ≤ 101 ∧ g l = some ([3], .inr (4, [.inr (.inr (some ti)), .inl c0, .inl w0])) ∧ g ti = some ([15], ar_i 101 f)
def po_X2_clear : gt_X2_clear → List pz_V → pz_H → Option pz_V → pz_H → Prop := fun ((l, w), ti, _, f) _ g v g' => v = none ∧ hg (fun b => b = [3]) g g' ∧ lvS g' l ti 0 w f
set_option maxRecDepth 20000 in
theorem ct_X2_clear {G : pz_Gx} (hOk : pz_OK G) (gh : gt_X2_clear) : pz_M G yX2_clear cX2_clear 2 none rm_X2_clear (pr_X2_clear gh) (po_X2_clear gh) := by
  obtain ⟨⟨l, w⟩, ti, ⟨c0, w0⟩, f⟩ := gh
  refine pz_ofZ (by decide) hOk.1 (Or.inl rfl) ?_ ?_
  · rintro av g ⟨rfl, -⟩
    exact Nat.le_of_ble_eq_true rfl
  · rintro X hX hGX hrm - av g ⟨rfl, hw, hl, ht⟩ hR
    have em : (if nI 101 < nI w then nI 101 else nI w) = nI w := if_neg (fun q => absurd ((ni_lt (by omega) (by omega)).mp q) (by omega))
    refine bX2_clear_0 hX hR hrm _ _ _ _ _ ⟨_, _, _, hl, rfl, _, _, _, ht, by decide, Nat.le_of_ble_eq_true rfl, Nat.le_of_ble_eq_true rfl, Nat.le_of_ble_eq_true rfl, Nat.le_of_ble_eq_true rfl, ?_⟩
    dsimp only
    rw [show (if Int32.ofNat 101 < nI w then Int32.ofNat 101 else nI w) = nI w from em]
    exact ⟨_, _, hl, Nat.le_of_ble_eq_true rfl, _, _, up_at, Nat.le_of_ble_eq_true rfl, Nat.le_refl _, Nat.le_refl _, rfl, hg_up (hg_up hg_rf hl rfl) up_at rfl, by rw [up_at]; rfl, up_ne (up_ne ht hl (by simp)) up_at (by simp)⟩
/-- the legs from stop i of a run, to stops j, j + 1, .. (m of them): their leaving b noted -/
def gt_j (w : Nat) (f1 A : Nat → Int32) (to : Nat) (b : Int32) : Nat → Nat → Nat × (Nat → Int32) → Nat × (Nat → Int32)
  | _, 0, s => s
  | j, m + 1, s => gt_j w f1 A to b (j + 1) m (if f1 j = nI to ∧ b ≤ A j then lv_nt w b s else s)
def gt_i (w : Nat) (f1 A B : Nat → Int32) (n from' to : Nat) (t : Int32) : Nat → Nat → Nat × (Nat → Int32) → Nat × (Nat → Int32)
  | _, 0, s => s
  | i, m + 1, s => gt_i w f1 A B n from' to t (i + 1) m (if f1 i = nI from' ∧ t ≤ B i then gt_j w f1 A to (B i) (i + 1) (n - (i + 1)) s else s)
theorem lv_nt_le {w : Nat} {x : Int32} {s : Nat × (Nat → Int32)} (h : s.1 ≤ w) : (lv_nt w x s).1 ≤ w := by
  obtain ⟨c, f⟩ := s
  unfold lv_nt
  dsimp only
  split
  · dsimp only; omega
  · split
    · exact h
    · split <;> exact h
theorem gt_j_le {w : Nat} {f1 A : Nat → Int32} {to : Nat} {b : Int32} : ∀ (m j : Nat) (s : Nat × (Nat → Int32)), s.1 ≤ w → (gt_j w f1 A to b j m s).1 ≤ w
  | 0, _, _, h => h
  | m + 1, j, s, h => gt_j_le m (j + 1) _ (by
    split
    · exact lv_nt_le h
    · exact h)
set_option maxRecDepth 20000 in
theorem bX4_gatherRun_0 {X : pz_C} (hX : pz_X X cX4_gatherRun 10 RX4) : ∀ lv st g c s, (zo_ic 1 (0) (zo_is 2 7 (pz_Z X 10))) 0 lv st g c s → pz_Z X 10 0 lv st g c s := (zs_iconst hX dX4_gatherRun_0 (by decide) (zs_istore hX dX4_gatherRun_1 (by decide) (fun _ _ _ _ _ h => h)))
set_option maxRecDepth 20000 in
theorem bX4_gatherRun_3 {X : pz_C} (hX : pz_X X cX4_gatherRun 10 RX4) : ∀ lv st g c s, (zo_il 2 7 (zo_al 1 2 (zo_get 5 4 (zo_ic_ge 104 (pz_Z X 10))))) 3 lv st g c s → pz_Z X 10 3 lv st g c s := (zs_iload hX dX4_gatherRun_3 (zs_aload_n hX dX4_gatherRun_5 rfl (zs_get hX (C := RX3) (T := TX3) (N := 11) rfl in_X3 (by decide) mw_7ddd2f0e dX4_gatherRun_6 (zs_ic_ge hX dX4_gatherRun_9 (by decide) (fun _ _ _ _ _ _ h => h)))))
set_option maxRecDepth 20000 in
theorem bX4_gatherRun_12 {X : pz_C} (hX : pz_X X cX4_gatherRun 10 RX4) : ∀ lv st g c s, (zo_al 1 2 (zo_get 5 9 (zo_il 1 3 (zo_aald 6 (zo_il 2 7 (zo_iald (zo_is 2 8 (zo_al 1 2 (zo_get 5 1 (zo_il 2 7 (zo_iald (zo_il 2 4 (zo_ic_ne 98 (pz_Z X 10)))))))))))))) 12 lv st g c s → pz_Z X 10 12 lv st g c s := (zs_aload_n hX dX4_gatherRun_12 rfl (zs_get hX (C := RX3) (T := TX3) (N := 11) rfl in_X3 (by decide) mw_ab24417a dX4_gatherRun_13 (zs_iload_n hX dX4_gatherRun_16 rfl (zs_aald hX (ty := (.array .int)) (fun _ => rfl) rfl dX4_gatherRun_17 (zs_iload hX dX4_gatherRun_18 (zs_iald hX dX4_gatherRun_20 (zs_istore hX dX4_gatherRun_21 (by decide) (zs_aload_n hX dX4_gatherRun_23 rfl (zs_get hX (C := RX3) (T := TX3) (N := 11) rfl in_X3 (by decide) mw_6bb37aef dX4_gatherRun_24 (zs_iload hX dX4_gatherRun_27 (zs_iald hX dX4_gatherRun_29 (zs_iload hX dX4_gatherRun_30 (zs_ic_ne hX dX4_gatherRun_32 (by decide) (fun _ _ _ _ _ _ h => h))))))))))))))
set_option maxRecDepth 20000 in
theorem bX4_gatherRun_35 {X : pz_C} (hX : pz_X X cX4_gatherRun 10 RX4) : ∀ lv st g c s, (zo_il 2 8 (zo_il 2 6 (zo_ic_ge 45 (pz_Z X 10)))) 35 lv st g c s → pz_Z X 10 35 lv st g c s := (zs_iload hX dX4_gatherRun_35 (zs_iload hX dX4_gatherRun_37 (zs_ic_ge hX dX4_gatherRun_39 (by decide) (fun _ _ _ _ _ _ h => h))))
set_option maxRecDepth 20000 in
theorem bX4_gatherRun_42 {X : pz_C} (hX : pz_X X cX4_gatherRun 10 RX4) : ∀ lv st g c s, (zo_goto 98 (pz_Z X 10)) 42 lv st g c s → pz_Z X 10 42 lv st g c s := (zs_goto hX dX4_gatherRun_42 (by decide) (fun _ _ _ _ _ _ h => h))
set_option maxRecDepth 20000 in
theorem bX4_gatherRun_45 {X : pz_C} (hX : pz_X X cX4_gatherRun 10 RX4) : ∀ lv st g c s, (zo_il 2 7 (zo_ic 1 (1) (zo_iadd (zo_is 2 9 (pz_Z X 10))))) 45 lv st g c s → pz_Z X 10 45 lv st g c s := (zs_iload hX dX4_gatherRun_45 (zs_iconst hX dX4_gatherRun_47 (by decide) (zs_iadd hX dX4_gatherRun_48 (zs_istore hX dX4_gatherRun_49 (by decide) (fun _ _ _ _ _ h => h)))))
set_option maxRecDepth 20000 in
theorem bX4_gatherRun_51 {X : pz_C} (hX : pz_X X cX4_gatherRun 10 RX4) : ∀ lv st g c s, (zo_il 2 9 (zo_al 1 2 (zo_get 5 4 (zo_ic_ge 98 (pz_Z X 10))))) 51 lv st g c s → pz_Z X 10 51 lv st g c s := (zs_iload hX dX4_gatherRun_51 (zs_aload_n hX dX4_gatherRun_53 rfl (zs_get hX (C := RX3) (T := TX3) (N := 11) rfl in_X3 (by decide) mw_7ddd2f0e dX4_gatherRun_54 (zs_ic_ge hX dX4_gatherRun_57 (by decide) (fun _ _ _ _ _ _ h => h)))))
set_option maxRecDepth 20000 in
theorem bX4_gatherRun_60 {X : pz_C} (hX : pz_X X cX4_gatherRun 10 RX4) : ∀ lv st g c s, (zo_al 1 2 (zo_get 5 1 (zo_il 2 9 (zo_iald (zo_il 2 5 (zo_ic_ne 92 (pz_Z X 10))))))) 60 lv st g c s → pz_Z X 10 60 lv st g c s := (zs_aload_n hX dX4_gatherRun_60 rfl (zs_get hX (C := RX3) (T := TX3) (N := 11) rfl in_X3 (by decide) mw_6bb37aef dX4_gatherRun_61 (zs_iload hX dX4_gatherRun_64 (zs_iald hX dX4_gatherRun_66 (zs_iload hX dX4_gatherRun_67 (zs_ic_ne hX dX4_gatherRun_69 (by decide) (fun _ _ _ _ _ _ h => h)))))))
set_option maxRecDepth 20000 in
theorem bX4_gatherRun_72 {X : pz_C} (hX : pz_X X cX4_gatherRun 10 RX4) : ∀ lv st g c s, (zo_al 1 2 (zo_get 5 8 (zo_il 1 3 (zo_aald 6 (zo_il 2 9 (zo_iald (zo_il 2 8 (zo_ic_lt 92 (pz_Z X 10))))))))) 72 lv st g c s → pz_Z X 10 72 lv st g c s := (zs_aload_n hX dX4_gatherRun_72 rfl (zs_get hX (C := RX3) (T := TX3) (N := 11) rfl in_X3 (by decide) mw_c4b4b32a dX4_gatherRun_73 (zs_iload_n hX dX4_gatherRun_76 rfl (zs_aald hX (ty := (.array .int)) (fun _ => rfl) rfl dX4_gatherRun_77 (zs_iload hX dX4_gatherRun_78 (zs_iald hX dX4_gatherRun_80 (zs_iload hX dX4_gatherRun_81 (zs_ic_lt hX dX4_gatherRun_83 (by decide) (fun _ _ _ _ _ _ h => h)))))))))
set_option maxRecDepth 20000 in
theorem bX4_gatherRun_86 {X : pz_C} (hX : pz_X X cX4_gatherRun 10 RX4) : ∀ lv st g c s, (zo_al 1 1 (zo_il 2 8 (pz_Z X 10))) 86 lv st g c s → pz_Z X 10 86 lv st g c s := (zs_aload_n hX dX4_gatherRun_86 rfl (zs_iload hX dX4_gatherRun_87 (fun _ _ _ _ _ h => h)))
set_option maxRecDepth 20000 in
theorem bX4_gatherRun_89 {X : pz_C} {G : pz_Gx} {rm : Room} (hX : pz_X X cX4_gatherRun 10 RX4) (hrm : pz_rm X = rm) (hGX : pz_GX X G) (hOk : pz_OK G) (gh : gt_X2_note) (hr_X2_note : rm_X2_note.frames + 1 ≤ rm.frames ∧ 8 + (3 + 11) + rm_X2_note.locals ≤ rm.locals) : ∀ lv st g c s, (zo_cV rm 4 1 3 rm_X2_note.cells rm_X2_note.slots (pr_X2_note gh) (po_X2_note gh) (zo_kv (pz_Z X 10))) 89 lv st g c s → pz_Z X 10 89 lv st g c s := by
  subst hrm
  exact (zs_csV hX hGX (C := RX2) (T := TX2) (N := 3) rfl (ct_X2_note hOk gh) mw_88258e64 mw_7089cdc0 mw_cd414451 mw_ee921776 mw_1c9890cb (by decide +kernel) hr_X2_note dX4_gatherRun_89 (zs_kv (fun _ _ _ _ _ h => h)))
set_option maxRecDepth 20000 in
theorem bX4_gatherRun_92 {X : pz_C} (hX : pz_X X cX4_gatherRun 10 RX4) : ∀ lv st g c s, (zo_inc 9 (1) (zo_goto 51 (pz_Z X 10))) 92 lv st g c s → pz_Z X 10 92 lv st g c s := (zs_iinc hX dX4_gatherRun_92 (by decide) (by decide) (zs_goto hX dX4_gatherRun_95 (by decide) (fun _ _ _ _ _ _ h => h)))
set_option maxRecDepth 20000 in
theorem bX4_gatherRun_98 {X : pz_C} (hX : pz_X X cX4_gatherRun 10 RX4) : ∀ lv st g c s, (zo_inc 7 (1) (zo_goto 3 (pz_Z X 10))) 98 lv st g c s → pz_Z X 10 98 lv st g c s := (zs_iinc hX dX4_gatherRun_98 (by decide) (by decide) (zs_goto hX dX4_gatherRun_101 (by decide) (fun _ _ _ _ _ _ h => h)))
set_option maxRecDepth 20000 in
theorem bX4_gatherRun_104 {X : pz_C} {rm : Room} {E : Option pz_V → pz_H → Prop} (hX : pz_X X cX4_gatherRun 10 RX4) (hR : pz_Rt X cX4_gatherRun 10 none rm E) : ∀ lv st g c s, (zo_rv rm E) 104 lv st g c s → pz_Z X 10 104 lv st g c s := (zs_rv hR dX4_gatherRun_104)
def rm_X4_gatherRun : Room := { frames := 1, cells := 0, slots := 0, locals := 22 }
abbrev gt_X4_gatherRun : Type := (Nat × Nat × Nat × Nat × Nat × Nat × Int32) × (Nat × Nat × Nat × (Nat → Int32)) × (Nat × (Nat → Nat) × (Nat → Nat) × (Nat → Nat)) × (Int32 × Nat × Option Nat × Option Nat) × ((Nat → Int32) × (Nat → Int32) × (Nat → Int32)) × ((Nat → Int32) × (Nat → Int32))
def pr_X4_gatherRun : gt_X4_gatherRun → List pz_V → pz_H → Prop := fun ((nt, l, h, row, from', to, t), (ti, c, w, f), (u, La, Ra, Rd), (wd, n, dw, lw), (f1, f2, f3), (A, B)) av g => av = [.inr (.inr (some nt)), .inr (.inr (some l)), .inr (.inr (some h)), .inl (nI row), .inl (nI from'), .inl (nI to), .inl t] ∧ row < 13 ∧ n ≤ 12 ∧ c ≤ w ∧ w ≤ 101 ∧ lvS g l ti c w f ∧ lnH g u h La Ra Rd wd n dw lw f1 f2 f3 ∧ g (Ra row) = some ([36, u, row], ar_i 12 A) ∧ g (Rd row) = some ([38, u, row], ar_i 12 B)
def po_X4_gatherRun : gt_X4_gatherRun → List pz_V → pz_H → Option pz_V → pz_H → Prop := fun ((_, l, _, _, from', to, t), (ti, c, w, f), _, (_, n, _, _), (f1, _, _), (A, B)) _ g v g' => v = none ∧ hg (fun b => b = [3] ∨ b = [15]) g g' ∧ lvS g' l ti (gt_i w f1 A B n from' to t 0 n (c, f)).1 w (gt_i w f1 A B n from' to t 0 n (c, f)).2 ∧ (gt_i w f1 A B n from' to t 0 n (c, f)).1 ≤ w
set_option maxRecDepth 20000 in
set_option maxHeartbeats 4000000 in
theorem ct_X4_gatherRun {G : pz_Gx} (hOk : pz_OK G) (gh : gt_X4_gatherRun) : pz_M G yX4_gatherRun cX4_gatherRun 10 none rm_X4_gatherRun (pr_X4_gatherRun gh) (po_X4_gatherRun gh) := by
  obtain ⟨⟨nt, l, h, row, from', to, t⟩, ⟨ti, c0, w, f0⟩, ⟨u, La, Ra, Rd⟩, ⟨wd, n, dw, lw⟩, ⟨f1, f2, f3⟩, A, B⟩ := gh
  refine pz_ofZ (by decide) hOk.1 (Or.inl rfl) ?_ ?_
  · rintro av g ⟨rfl, -⟩
    exact Nat.le_of_ble_eq_true rfl
  · rintro X hX hGX hrm - av g ⟨rfl, hrow, hn, hcw, hw, hlv, hL, hA, hB⟩ hR
    have hrc : (nI row).toNatClampNeg = row := ni_cl (by omega)
    have hri : vp_in (nI row) 13 := ni_in hrow (by omega)
    have outer : ∀ (m i : Nat) (s : Nat × (Nat → Int32)) (gk : pz_H), i + m = n → s.1 ≤ w → hg (fun b => b = [3] ∨ b = [15]) g gk → lvS gk l ti s.1 w s.2 → gt_i w f1 A B n from' to t i m s = gt_i w f1 A B n from' to t 0 n (c0, f0) → pz_Z X 10 3 [(7, .inl (nI i)), (0, .inr (.inr (some nt))), (1, .inr (.inr (some l))), (2, .inr (.inr (some h))), (3, .inl (nI row)), (4, .inl (nI from')), (5, .inl (nI to)), (6, .inl t)] [] gk 0 0 := by
      intro m
      induction m with
      | zero =>
        intro i s gk hi hsw hS hv he
        obtain rfl : i = n := by omega
        have hL' := lnH_mono hS (by simp) hL
        refine bX4_gatherRun_3 hX _ _ _ _ _ ⟨_, _, _, hL'.1, rfl, fun _ => ?_, fun q => absurd (Int32.le_refl _) q⟩
        refine bX4_gatherRun_104 hX hR _ _ _ _ _ ⟨Nat.le_refl _, Nat.le_refl _, rfl, hS, ?_⟩
        rw [← he]
        exact ⟨hv, hsw⟩
      | succ m ih =>
        intro i s gk hi hsw hS hv he
        obtain ⟨hh, h1, h2, h3, ⟨o8, h8, ho8⟩, o9, h9, ho9⟩ := lnH_mono hS (by simp) hL
        have hB' := hS _ _ _ hB (by simp)
        have hic : (nI i).toNatClampNeg = i := ni_cl (by omega)
        have hi12 : vp_in (nI i) 12 := ni_in (by omega) (by omega)
        have he2 : gt_i w f1 A B n from' to t (i + 1) m (if f1 i = nI from' ∧ t ≤ B i then gt_j w f1 A to (B i) (i + 1) (n - (i + 1)) s else s) = gt_i w f1 A B n from' to t 0 n (c0, f0) := he
        have next : ∀ (s2 : Nat × (Nat → Int32)) (g2 : pz_H) (lv : pz_L), pz_all lv [(7, .inl (nI i)), (0, .inr (.inr (some nt))), (1, .inr (.inr (some l))), (2, .inr (.inr (some h))), (3, .inl (nI row)), (4, .inl (nI from')), (5, .inl (nI to)), (6, .inl t)] → s2.1 ≤ w → hg (fun b => b = [3] ∨ b = [15]) g g2 → lvS g2 l ti s2.1 w s2.2 → s2 = (if f1 i = nI from' ∧ t ≤ B i then gt_j w f1 A to (B i) (i + 1) (n - (i + 1)) s else s) → pz_Z X 10 98 lv [] g2 0 0 := by
          intro s2 g2 lv hall hs2 hS2 hv2 hs
          refine pz_lsub hall ?_
          refine bX4_gatherRun_98 hX _ _ _ _ _ ?_
          refine pz_lsub (lv' := [(7, .inl (nI (i + 1))), (0, .inr (.inr (some nt))), (1, .inr (.inr (some l))), (2, .inr (.inr (some h))), (3, .inl (nI row)), (4, .inl (nI from')), (5, .inl (nI to)), (6, .inl t)]) ⟨ni_inc, rfl, rfl, rfl, rfl, rfl, rfl, rfl, trivial⟩ ?_
          refine ih (i + 1) s2 g2 (by omega) hs2 hS2 hv2 ?_
          rw [hs]
          exact he2
        refine bX4_gatherRun_3 hX _ _ _ _ _ ⟨_, _, _, hh, rfl, fun q => absurd ((ni_le (by omega) (by omega)).mp q) (by omega), fun _ => ?_⟩
        refine bX4_gatherRun_12 hX _ _ _ _ _ ⟨_, _, _, hh, rfl, _, _, _, h9, hri, ?_⟩
        rw [hrc, ho9 row hrow]
        refine ⟨_, _, _, hB', hi12, _, _, _, hh, rfl, _, _, _, h1, hi12, ?_⟩
        rw [hic]
        refine ⟨fun q => ?_, fun q => ?_⟩
        · exact next s gk _ ⟨rfl, rfl, rfl, rfl, rfl, rfl, rfl, rfl, trivial⟩ hsw hS hv (by rw [if_neg (fun z => q z.1)])
        refine bX4_gatherRun_35 hX _ _ _ _ _ ⟨fun q2 => ?_, fun q2 => ?_⟩
        · have inner : ∀ (m2 j : Nat) (s2 : Nat × (Nat → Int32)) (g2 : pz_H), j + m2 = n → s2.1 ≤ w → hg (fun b => b = [3] ∨ b = [15]) g g2 → lvS g2 l ti s2.1 w s2.2 → gt_j w f1 A to (B i) j m2 s2 = gt_j w f1 A to (B i) (i + 1) (n - (i + 1)) s → pz_Z X 10 51 [(9, .inl (nI j)), (8, .inl (B i)), (7, .inl (nI i)), (0, .inr (.inr (some nt))), (1, .inr (.inr (some l))), (2, .inr (.inr (some h))), (3, .inl (nI row)), (4, .inl (nI from')), (5, .inl (nI to)), (6, .inl t)] [] g2 0 0 := by
            intro m2
            induction m2 with
            | zero =>
              intro j s2 g2 hj hs2 hS2 hv2 hj2
              obtain rfl : j = n := by omega
              have hL2 := lnH_mono hS2 (by simp) hL
              refine bX4_gatherRun_51 hX _ _ _ _ _ ⟨_, _, _, hL2.1, rfl, fun _ => ?_, fun q => absurd (Int32.le_refl _) q⟩
              refine next s2 g2 _ ⟨rfl, rfl, rfl, rfl, rfl, rfl, rfl, rfl, trivial⟩ hs2 hS2 hv2 ?_
              rw [if_pos ⟨q, q2⟩]
              exact hj2
            | succ m2 ih2 =>
              intro j s2 g2 hj hs2 hS2 hv2 hj2
              obtain ⟨hh2, h12, -, -, ⟨o82, h82, ho82⟩, -⟩ := lnH_mono hS2 (by simp) hL
              have hA2 := hS2 _ _ _ hA (by simp)
              have hjc : (nI j).toNatClampNeg = j := ni_cl (by omega)
              have hj12 : vp_in (nI j) 12 := ni_in (by omega) (by omega)
              have hj3 : gt_j w f1 A to (B i) (j + 1) m2 (if f1 j = nI to ∧ B i ≤ A j then lv_nt w (B i) s2 else s2) = gt_j w f1 A to (B i) (i + 1) (n - (i + 1)) s := hj2
              have next2 : ∀ (s3 : Nat × (Nat → Int32)) (g3 : pz_H) (lv : pz_L), pz_all lv [(9, .inl (nI j)), (8, .inl (B i)), (7, .inl (nI i)), (0, .inr (.inr (some nt))), (1, .inr (.inr (some l))), (2, .inr (.inr (some h))), (3, .inl (nI row)), (4, .inl (nI from')), (5, .inl (nI to)), (6, .inl t)] → s3.1 ≤ w → hg (fun b => b = [3] ∨ b = [15]) g g3 → lvS g3 l ti s3.1 w s3.2 → s3 = (if f1 j = nI to ∧ B i ≤ A j then lv_nt w (B i) s2 else s2) → pz_Z X 10 92 lv [] g3 0 0 := by
                intro s3 g3 lv hall hs3 hS3 hv3 hs
                refine pz_lsub hall ?_
                refine bX4_gatherRun_92 hX _ _ _ _ _ ?_
                refine pz_lsub (lv' := [(9, .inl (nI (j + 1))), (8, .inl (B i)), (7, .inl (nI i)), (0, .inr (.inr (some nt))), (1, .inr (.inr (some l))), (2, .inr (.inr (some h))), (3, .inl (nI row)), (4, .inl (nI from')), (5, .inl (nI to)), (6, .inl t)]) ⟨ni_inc, rfl, rfl, rfl, rfl, rfl, rfl, rfl, rfl, rfl, trivial⟩ ?_
                refine ih2 (j + 1) s3 g3 (by omega) hs3 hS3 hv3 ?_
                rw [hs]
                exact hj3
              refine bX4_gatherRun_51 hX _ _ _ _ _ ⟨_, _, _, hh2, rfl, fun z => absurd ((ni_le (by omega) (by omega)).mp z) (by omega), fun _ => ?_⟩
              refine bX4_gatherRun_60 hX _ _ _ _ _ ⟨_, _, _, hh2, rfl, _, _, _, h12, hj12, ?_⟩
              rw [hjc]
              refine ⟨fun q3 => ?_, fun q3 => ?_⟩
              · exact next2 s2 g2 _ ⟨rfl, rfl, rfl, rfl, rfl, rfl, rfl, rfl, rfl, rfl, trivial⟩ hs2 hS2 hv2 (by rw [if_neg (fun z => q3 z.1)])
              refine bX4_gatherRun_72 hX _ _ _ _ _ ⟨_, _, _, hh2, rfl, _, _, _, h82, hri, ?_⟩
              rw [hrc, ho82 row hrow]
              refine ⟨_, _, _, hA2, hj12, ?_⟩
              rw [hjc]
              refine ⟨fun q4 => ?_, fun q4 => ?_⟩
              · exact next2 s2 g2 _ ⟨rfl, rfl, rfl, rfl, rfl, rfl, rfl, rfl, rfl, rfl, trivial⟩ hs2 hS2 hv2 (by rw [if_neg (fun z => absurd z.2 (Int32.not_le.mpr q4))])
              refine bX4_gatherRun_86 hX _ _ _ _ _ ?_
              refine bX4_gatherRun_89 hX hrm hGX hOk ((l, B i), ti, (s2.1, w), s2.2) (by decide) _ _ _ _ _ ⟨Nat.le_of_ble_eq_true rfl, ⟨l, [.inl (B i)], [3], _, rfl, hv2.1⟩, Nat.le_of_ble_eq_true rfl, Nat.le_of_ble_eq_true rfl, Nat.le_of_ble_eq_true rfl, ⟨rfl, hs2, hw, hv2⟩, ?_⟩
              rintro v g3 ⟨rfl, h3', hv3⟩ _
              refine next2 (lv_nt w (B i) s2) g3 _ ⟨rfl, rfl, rfl, rfl, rfl, rfl, rfl, rfl, rfl, rfl, trivial⟩ (lv_nt_le hs2) (hg_tr hS2 h3') hv3 ?_
              rw [if_pos ⟨q3, Int32.not_lt.mp q4⟩]
          refine bX4_gatherRun_45 hX _ _ _ _ _ ?_
          refine pz_lsub (lv' := [(9, .inl (nI (i + 1))), (8, .inl (B i)), (7, .inl (nI i)), (0, .inr (.inr (some nt))), (1, .inr (.inr (some l))), (2, .inr (.inr (some h))), (3, .inl (nI row)), (4, .inl (nI from')), (5, .inl (nI to)), (6, .inl t)]) ⟨ni_inc, rfl, rfl, rfl, rfl, rfl, rfl, rfl, rfl, rfl, trivial⟩ ?_
          exact inner (n - (i + 1)) (i + 1) s gk (by omega) hsw hS hv rfl
        · refine bX4_gatherRun_42 hX _ _ _ _ _ ?_
          exact next s gk _ ⟨rfl, rfl, rfl, rfl, rfl, rfl, rfl, rfl, trivial⟩ hsw hS hv (by rw [if_neg (fun z => q2 z.2)])
    refine bX4_gatherRun_0 hX _ _ _ _ _ ?_
    refine pz_lsub (lv' := [(7, .inl (nI 0)), (0, .inr (.inr (some nt))), (1, .inr (.inr (some l))), (2, .inr (.inr (some h))), (3, .inl (nI row)), (4, .inl (nI from')), (5, .inl (nI to)), (6, .inl t)]) ⟨rfl, rfl, rfl, rfl, rfl, rfl, rfl, rfl, trivial⟩ ?_
    exact outer n 0 (c0, f0) g (by omega) hcw hg_rf hlv rfl
