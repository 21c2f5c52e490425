/-! the reference: round, by number of legs -/
def agJ (S : List Nat) (A A' : Nat → Nat → Int64) : Prop := ∀ k, k ∉ S → A' k = A k
def agI (S : List Nat) (A A' : Nat → Nat → Int32) : Prop := ∀ k, k ∉ S → A' k = A k
theorem agJ_rf {S : List Nat} {A : Nat → Nat → Int64} : agJ S A A := fun _ _ => rfl
theorem agI_rf {S : List Nat} {A : Nat → Nat → Int32} : agI S A A := fun _ _ => rfl
theorem agJ_tr {S : List Nat} {A B C : Nat → Nat → Int64} (h : agJ S A B) (h2 : agJ S B C) : agJ S A C := fun k hk => (h2 k hk).trans (h k hk)
theorem agI_tr {S : List Nat} {A B C : Nat → Nat → Int32} (h : agI S A B) (h2 : agI S B C) : agI S A C := fun k hk => (h2 k hk).trans (h k hk)
theorem agJ_mono {S S' : List Nat} {A B : Nat → Nat → Int64} (h : agJ S A B) (hS : ∀ k, k ∈ S → k ∈ S') : agJ S' A B := fun k hk => h k (fun q => hk (hS k q))
theorem agI_mono {S S' : List Nat} {A B : Nat → Nat → Int32} (h : agI S A B) (hS : ∀ k, k ∈ S → k ∈ S') : agI S' A B := fun k hk => h k (fun q => hk (hS k q))
theorem agJ_sq {S : List Nat} {A B : Nat → Nat → Int64} {j : Nat} {x : Nat → Int64} (h : agJ S A B) (hj : j ∈ S) : agJ S A (seqJ B j x) := fun k hk => (seqJ_ne (fun e => hk (by rw [e]; exact hj))).trans (h k hk)
theorem agI_sq {S : List Nat} {A B : Nat → Nat → Int32} {j : Nat} {x : Nat → Int32} (h : agI S A B) (hj : j ∈ S) : agI S A (seqU B j x) := fun k hk => (seqU_ne (fun e => hk (by rw [e]; exact hj))).trans (h k hk)
theorem ml_ag {Ai : Nat → Nat → Int32} {A B : Nat → Nat → Int64} {l s : Int32} {d : Int64} (h18 : B 18 = A 18) (h19 : B 19 = A 19) : ∀ k, ml_k Ai B l s d k = ml_k Ai A l s d k
  | 0 => rfl
  | k + 1 => by
    unfold ml_k
    rw [ml_ag h18 h19 k, h18, h19]
theorem mt_ag {S : List Nat} {Ai : Nat → Nat → Int32} {A B : Nat → Nat → Int64} {nz nw l : Nat} {d : Int64} {s : Nat} {lv : Bool} (h : agJ S A B) (hS : ∀ k, k ∈ [5, 6, 13, 18, 19] → k ∉ S) : mt_t Ai B nz nw l d s lv = mt_t Ai A nz nw l d s lv := by
  unfold mt_t
  rw [ml_ag (h 18 (hS _ (by decide))) (h 19 (hS _ (by decide))), h 5 (hS _ (by decide)), h 6 (hS _ (by decide)), h 13 (hS _ (by decide))]
theorem mr_ag {S : List Nat} {Ai : Nat → Nat → Int32} {A B : Nat → Nat → Int64} {ne l : Nat} {d : Int64} (h : agJ S A B) (hS : 9 ∉ S) : mr_run Ai B ne l d = mr_run Ai A ne l d := by
  have : mr_p Ai B (nI l) d = mr_p Ai A (nI l) d := by
    funext k
    unfold mr_p
    rw [h 9 hS]
  unfold mr_run
  rw [this]
/-- the reference's counts, and what its arrays hold -/
def moW (I : Nat → Int32) (Ai : Nat → Nat → Int32) (nl ne nz nw : Nat) (cn : Nat → Nat) : Prop := (I 1 = nI nl ∧ nl ≤ 40) ∧ (I 7 = nI ne ∧ ne ≤ 100 ∧ ∀ k, k < ne → Ai 10 k = 0 ∨ Ai 10 k = 1) ∧ (I 11 = nI nz ∧ nz ≤ 100) ∧ (I 15 = nI nw ∧ nw ≤ 100) ∧ ∀ l, l < nl → Ai 3 l = nI (cn l) ∧ cn l ≤ 12 ∧ ∀ j, j < cn l → ∃ p, p < 100 ∧ Ai 4 (12 * l + j) = nI p
def dy (T r : Nat) : Int64 := lN T / 86400 - 3 + lN r
theorem dy_dv {T : Nat} (hT : T ≤ 1700000000) : lN T / 86400 = lN (T / 86400) := by
  rw [show (86400 : Int64) = lN 86400 from rfl, pk_lDiv (by omega) (by omega) (by omega)]
theorem dy_toInt {T r : Nat} (hT : T ≤ 1700000000) (hr : r ≤ 1000) : (dy T r).toInt = (T / 86400 : Nat) - 3 + r := by
  unfold dy
  rw [dy_dv hT, show (3 : Int64) = lN 3 from rfl, Int64.toInt_add, Int64.toInt_sub, lN_toInt (by omega), lN_toInt (by omega), lN_toInt (by omega)]
  have hb : ∀ x : Int, -2 ^ 40 ≤ x → x ≤ 2 ^ 40 → x.bmod (2 ^ 64) = x := fun x h1 h2 => Int.bmod_eq_of_le (by omega) (by omega)
  rw [hb (_ - _) (by omega) (by omega), hb _ (by omega) (by omega)]
  rfl
theorem dy_gt {T r : Nat} (hT : T ≤ 1700000000) (hr : r ≤ 13) : 0 < lg_cmp (dy T r) (lN T / 86400 + 9) ↔ 13 ≤ r := by
  rw [lc_gt, Int64.lt_iff_toInt_lt, dy_toInt hT (by omega), dy_dv hT, show (9 : Int64) = lN 9 from rfl, lN_add, lN_toInt (by omega)]
  omega
theorem dy_1 (T r : Nat) : dy T r + 1 = dy T (r + 1) := by
  unfold dy
  rw [Int64.add_assoc, lN_1]
theorem dy_0 (T : Nat) : lN T / 86400 - 3 = dy T 0 := by
  unfold dy
  rw [show lN 0 = 0 from rfl, Int64.add_zero]
theorem dy_inc {T r : Nat} : some (Sum.inr (Sum.inl (dy T r + 1)) : pz_V) = some (Sum.inr (Sum.inl (dy T (r + 1)))) := by rw [dy_1]
theorem dy_ini {T : Nat} : some (Sum.inr (Sum.inl (lN T / 86400 - 3)) : pz_V) = some (Sum.inr (Sum.inl (dy T 0))) := by rw [dy_0]
section ME
variable (Ai : Nat → Nat → Int32) (Aj : Nat → Nat → Int64) (ne nz nw : Nat) (cn : Nat → Nat) (lb from' T : Nat)
def me_a (l j : Nat) : Nat := 100 * (lb + 1) + (Ai 4 (12 * l + j)).toNatClampNeg
def me_j (l i : Nat) (fi fo : Nat → Int64) : Nat → Nat → (Nat → Int64) → Nat → Int64
  | _, 0, E => E
  | j, m + 1, E => me_j l i fi fo (j + 1) m (if fo i ≤ fi j ∧ fi j < E (me_a Ai lb l j) then vp_updL E (me_a Ai lb l j) (fi j) else E)
def mqe (C : Nat → Int32) (E : Nat → Int64) (lb p from' : Nat) (t : Int64) : Int64 := if p = from' then t else if E (100 * lb + p) = 9223372036854775807 then 9223372036854775807 else E (100 * lb + p) + (C p).toInt64
def me_i (l cnt : Nat) (fi fo : Nat → Int64) : Nat → Nat → (Nat → Int64) → Nat → Int64
  | _, 0, E => E
  | i, m + 1, E => me_i l cnt fi fo (i + 1) m (if mqe (Ai 20) E lb (Ai 4 (12 * l + i)).toNatClampNeg from' (lN T) ≤ fo i then me_j Ai lb l i fi fo (i + 1) (cnt - (i + 1)) E else E)
def me_d (l : Nat) : Nat → (Nat → Int64) → Nat → Int64
  | 0, E => E
  | r + 1, E => if mr_run Ai Aj ne l (dy T r) = 1 then me_i Ai lb from' T l (cn l) (fun k => mt_t Ai Aj nz nw l (dy T r) k false) (fun k => mt_t Ai Aj nz nw l (dy T r) k true) 0 (cn l) (me_d l r E) else me_d l r E
def me_l : Nat → (Nat → Int64) → Nat → Int64
  | 0, E => E
  | l + 1, E => me_d Ai Aj ne nz nw cn lb from' T l 13 (me_l l E)
def me_c (p : Nat) (E : Nat → Int64) : Nat → Int64 := fun k => if 100 * (lb + 1) ≤ k ∧ k < 100 * (lb + 1) + p then E (k - 100) else E k
end ME
theorem upL_rf {E : Nat → Int64} {k : Nat} : vp_updL E k (E k) = E := by
  funext x
  by_cases h : x = k
  · subst h; exact pk_uLs
  · exact pk_uLn h
theorem me_cs {lb p : Nat} {E : Nat → Int64} (hp : p < 100) : vp_updL (me_c lb p E) (100 * (lb + 1) + p) (me_c lb p E (100 * lb + p)) = me_c lb (p + 1) E := by
  funext x
  have e0 : me_c lb p E (100 * lb + p) = E (100 * lb + p) := if_neg (by omega)
  rw [e0]
  by_cases h : x = 100 * (lb + 1) + p
  · subst h
    rw [pk_uLs]
    show _ = if _ then _ else _
    rw [if_pos (by omega)]
    congr 1
    omega
  · rw [pk_uLn h]
    unfold me_c
    by_cases h2 : 100 * (lb + 1) ≤ x ∧ x < 100 * (lb + 1) + p
    · rw [if_pos h2, if_pos (by omega)]
    · rw [if_neg h2, if_neg (by omega)]
theorem me_c0 {lb : Nat} {E : Nat → Int64} : me_c lb 0 E = E := by
  funext x
  exact if_neg (by omega)
set_option maxRecDepth 20000 in
theorem bX10_round_0 {X : pz_C} (hX : pz_X X cX10_round 13 RX10) : ∀ lv st g c s, (zo_ic 1 (0) (zo_is 2 5 (pz_Z X 13))) 0 lv st g c s → pz_Z X 13 0 lv st g c s := (zs_iconst hX dX10_round_0 (by decide) (zs_istore hX dX10_round_1 (by decide) (fun _ _ _ _ _ h => h)))
set_option maxRecDepth 20000 in
theorem bX10_round_3 {X : pz_C} (hX : pz_X X cX10_round 13 RX10) : ∀ lv st g c s, (zo_il 2 5 (zo_ic 2 (100) (zo_ic_ge 42 (pz_Z X 13)))) 3 lv st g c s → pz_Z X 13 3 lv st g c s := (zs_iload hX dX10_round_3 (zs_bipush hX dX10_round_5 (by decide) (zs_ic_ge hX dX10_round_7 (by decide) (fun _ _ _ _ _ _ h => h))))
set_option maxRecDepth 20000 in
theorem bX10_round_10 {X : pz_C} (hX : pz_X X cX10_round 13 RX10) : ∀ lv st g c s, (zo_al 1 0 (zo_get 12 21 (zo_ic 2 (100) (zo_il 1 1 (zo_imul (zo_il 2 5 (zo_iadd (zo_al 1 0 (zo_get 12 21 (zo_ic 2 (100) (zo_il 1 1 (zo_ic 1 (1) (zo_isub (zo_imul (zo_il 2 5 (zo_iadd (zo_lald (zo_last (zo_inc 5 (1) (zo_goto 3 (pz_Z X 13))))))))))))))))))))) 10 lv st g c s → pz_Z X 13 10 lv st g c s := (zs_aload_n hX dX10_round_10 rfl (zs_get hX (C := RX10) (T := TX10) (N := 37) rfl in_X10 (by decide) mw_2f85e0df dX10_round_11 (zs_bipush hX dX10_round_14 (by decide) (zs_iload_n hX dX10_round_16 rfl (zs_imul hX dX10_round_17 (zs_iload hX dX10_round_18 (zs_iadd hX dX10_round_20 (zs_aload_n hX dX10_round_21 rfl (zs_get hX (C := RX10) (T := TX10) (N := 37) rfl in_X10 (by decide) mw_2f85e0df dX10_round_22 (zs_bipush hX dX10_round_25 (by decide) (zs_iload_n hX dX10_round_27 rfl (zs_iconst hX dX10_round_28 (by decide) (zs_isub hX dX10_round_29 (zs_imul hX dX10_round_30 (zs_iload hX dX10_round_31 (zs_iadd hX dX10_round_33 (zs_lald hX dX10_round_34 (zs_last hX dX10_round_35 (zs_iinc hX dX10_round_36 (by decide) (by decide) (zs_goto hX dX10_round_39 (by decide) (fun _ _ _ _ _ _ h => h)))))))))))))))))))))
set_option maxRecDepth 20000 in
theorem bX10_round_42 {X : pz_C} (hX : pz_X X cX10_round 13 RX10) : ∀ lv st g c s, (zo_ic 1 (0) (zo_is 2 5 (pz_Z X 13))) 42 lv st g c s → pz_Z X 13 42 lv st g c s := (zs_iconst hX dX10_round_42 (by decide) (zs_istore hX dX10_round_43 (by decide) (fun _ _ _ _ _ h => h)))
set_option maxRecDepth 20000 in
theorem bX10_round_45 {X : pz_C} (hX : pz_X X cX10_round 13 RX10) : ∀ lv st g c s, (zo_il 2 5 (zo_al 1 0 (zo_get 12 1 (zo_ic_ge 273 (pz_Z X 13))))) 45 lv st g c s → pz_Z X 13 45 lv st g c s := (zs_iload hX dX10_round_45 (zs_aload_n hX dX10_round_47 rfl (zs_get hX (C := RX10) (T := TX10) (N := 37) rfl in_X10 (by decide) mw_479e8e34 dX10_round_48 (zs_ic_ge hX dX10_round_51 (by decide) (fun _ _ _ _ _ _ h => h)))))
set_option maxRecDepth 20000 in
theorem bX10_round_54 {X : pz_C} (hX : pz_X X cX10_round 13 RX10) : ∀ lv st g c s, (zo_ll 1 3 (zo_lc 3 (86400) (zo_ldiv (zo_lc 3 (3) (zo_lsub (zo_lst 2 6 (pz_Z X 13))))))) 54 lv st g c s → pz_Z X 13 54 lv st g c s := (zs_lload_n hX dX10_round_54 rfl (zs_ldc2 hX dX10_round_55 mw_e93d3cab (zs_ldiv hX dX10_round_58 (zs_ldc2 hX dX10_round_59 mw_ac79b3bb (zs_lsub hX dX10_round_62 (zs_lstore hX dX10_round_63 (by decide) (fun _ _ _ _ _ h => h)))))))
set_option maxRecDepth 20000 in
theorem bX10_round_65 {X : pz_C} (hX : pz_X X cX10_round 13 RX10) : ∀ lv st g c s, (zo_ll 2 6 (zo_ll 1 3 (zo_lc 3 (86400) (zo_ldiv (zo_lc 3 (9) (zo_ladd (zo_lcmp (zo_if_gt 267 (pz_Z X 13))))))))) 65 lv st g c s → pz_Z X 13 65 lv st g c s := (zs_lload hX dX10_round_65 (zs_lload_n hX dX10_round_67 rfl (zs_ldc2 hX dX10_round_68 mw_e93d3cab (zs_ldiv hX dX10_round_71 (zs_ldc2 hX dX10_round_72 mw_7663b009 (zs_ladd hX dX10_round_75 (zs_lcmp hX dX10_round_76 (zs_if_gt hX dX10_round_77 (by decide) (fun _ _ _ _ _ _ h => h)))))))))
set_option maxRecDepth 20000 in
theorem bX10_round_80 {X : pz_C} (hX : pz_X X cX10_round 13 RX10) : ∀ lv st g c s, (zo_al 1 0 (zo_il 2 5 (zo_ll 2 6 (pz_Z X 13)))) 80 lv st g c s → pz_Z X 13 80 lv st g c s := (zs_aload_n hX dX10_round_80 rfl (zs_iload hX dX10_round_81 (zs_lload hX dX10_round_83 (fun _ _ _ _ _ h => h))))
set_option maxRecDepth 20000 in
theorem bX10_round_85 {X : pz_C} {G : pz_Gx} {rm : Room} (hX : pz_X X cX10_round 13 RX10) (hrm : pz_rm X = rm) (hGX : pz_GX X G) (hOk : pz_OK G) (gh : gt_X10_take) (hr_X10_take : rm_X10_take.frames + 1 ≤ rm.frames ∧ 8 + (5 + 11) + rm_X10_take.locals ≤ rm.locals) : ∀ lv st g c s, (zo_cV rm 12 2 3 rm_X10_take.cells rm_X10_take.slots (pr_X10_take gh) (po_X10_take gh) (zo_kz (zo_is 2 8 (zo_ic 1 (0) (zo_is 2 9 (pz_Z X 13)))))) 85 lv st g c s → pz_Z X 13 85 lv st g c s := by
  subst hrm
  exact (zs_csV hX hGX (C := RX10) (T := TX10) (N := 37) rfl (ct_X10_take hOk gh) mw_95669e7d mw_e7ac52cd mw_62cbaf3f mw_33939a39 mw_ca7d03b2 (by decide +kernel) hr_X10_take dX10_round_85 (zs_kz (zs_istore hX dX10_round_88 (by decide) (zs_iconst hX dX10_round_90 (by decide) (zs_istore hX dX10_round_91 (by decide) (fun _ _ _ _ _ h => h))))))
set_option maxRecDepth 20000 in
theorem bX10_round_93 {X : pz_C} (hX : pz_X X cX10_round 13 RX10) : ∀ lv st g c s, (zo_il 2 9 (zo_al 1 0 (zo_get 12 3 (zo_il 2 5 (zo_iald (zo_ic_ge 258 (pz_Z X 13))))))) 93 lv st g c s → pz_Z X 13 93 lv st g c s := (zs_iload hX dX10_round_93 (zs_aload_n hX dX10_round_95 rfl (zs_get hX (C := RX10) (T := TX10) (N := 37) rfl in_X10 (by decide) mw_6c7416b9 dX10_round_96 (zs_iload hX dX10_round_99 (zs_iald hX dX10_round_101 (zs_ic_ge hX dX10_round_102 (by decide) (fun _ _ _ _ _ _ h => h)))))))
set_option maxRecDepth 20000 in
theorem bX10_round_105 {X : pz_C} (hX : pz_X X cX10_round 13 RX10) : ∀ lv st g c s, (zo_il 2 8 (zo_if_eq 258 (pz_Z X 13))) 105 lv st g c s → pz_Z X 13 105 lv st g c s := (zs_iload hX dX10_round_105 (zs_if_eq hX dX10_round_107 (by decide) (fun _ _ _ _ _ _ h => h)))
set_option maxRecDepth 20000 in
theorem bX10_round_110 {X : pz_C} (hX : pz_X X cX10_round 13 RX10) : ∀ lv st g c s, (zo_al 1 0 (zo_get 12 30 (zo_il 2 9 (zo_lald (zo_al 1 0 (zo_il 1 1 (zo_ic 1 (1) (zo_isub (zo_al 1 0 (zo_get 12 4 (zo_ic 2 (12) (zo_il 2 5 (zo_imul (zo_il 2 9 (zo_iadd (zo_iald (zo_il 1 2 (zo_ll 1 3 (pz_Z X 13))))))))))))))))))) 110 lv st g c s → pz_Z X 13 110 lv st g c s := (zs_aload_n hX dX10_round_110 rfl (zs_get hX (C := RX10) (T := TX10) (N := 37) rfl in_X10 (by decide) mw_664a2ed3 dX10_round_111 (zs_iload hX dX10_round_114 (zs_lald hX dX10_round_116 (zs_aload_n hX dX10_round_117 rfl (zs_iload_n hX dX10_round_118 rfl (zs_iconst hX dX10_round_119 (by decide) (zs_isub hX dX10_round_120 (zs_aload_n hX dX10_round_121 rfl (zs_get hX (C := RX10) (T := TX10) (N := 37) rfl in_X10 (by decide) mw_d81b3427 dX10_round_122 (zs_bipush hX dX10_round_125 (by decide) (zs_iload hX dX10_round_127 (zs_imul hX dX10_round_129 (zs_iload hX dX10_round_130 (zs_iadd hX dX10_round_132 (zs_iald hX dX10_round_133 (zs_iload_n hX dX10_round_134 rfl (zs_lload_n hX dX10_round_135 rfl (fun _ _ _ _ _ h => h)))))))))))))))))))
set_option maxRecDepth 20000 in
theorem bX10_round_136 {X : pz_C} {G : pz_Gx} {rm : Room} (hX : pz_X X cX10_round 13 RX10) (hrm : pz_rm X = rm) (hGX : pz_GX X G) (hOk : pz_OK G) (gh : gt_X10_ready) (hr_X10_ready : rm_X10_ready.frames + 1 ≤ rm.frames ∧ 8 + (8 + 11) + rm_X10_ready.locals ≤ rm.locals) : ∀ lv st g c s, (zo_cV rm 12 4 3 rm_X10_ready.cells rm_X10_ready.slots (pr_X10_ready gh) (po_X10_ready gh) (zo_kl (zo_lcmp (zo_if_lt 147 (pz_Z X 13))))) 136 lv st g c s → pz_Z X 13 136 lv st g c s := by
  subst hrm
  exact (zs_csV hX hGX (C := RX10) (T := TX10) (N := 37) rfl (ct_X10_ready hOk gh) mw_f010a24d mw_3142e364 mw_32e14c6f mw_33939a39 mw_99ddfc1c (by decide +kernel) hr_X10_ready dX10_round_136 (zs_kl (zs_lcmp hX dX10_round_139 (zs_if_lt hX dX10_round_140 (by decide) (fun _ _ _ _ _ _ h => h)))))
set_option maxRecDepth 20000 in
theorem bX10_round_143 {X : pz_C} (hX : pz_X X cX10_round 13 RX10) : ∀ lv st g c s, (zo_ic 1 (1) (zo_goto 148 (pz_Z X 13))) 143 lv st g c s → pz_Z X 13 143 lv st g c s := (zs_iconst hX dX10_round_143 (by decide) (zs_goto hX dX10_round_144 (by decide) (fun _ _ _ _ _ _ h => h)))
set_option maxRecDepth 20000 in
theorem bX10_round_147 {X : pz_C} (hX : pz_X X cX10_round 13 RX10) : ∀ lv st g c s, (zo_ic 1 (0) (pz_Z X 13)) 147 lv st g c s → pz_Z X 13 147 lv st g c s := (zs_iconst hX dX10_round_147 (by decide) (fun _ _ _ _ _ h => h))
set_option maxRecDepth 20000 in
theorem bX10_round_148 {X : pz_C} (hX : pz_X X cX10_round 13 RX10) : ∀ lv st g c s, (zo_is 2 10 (zo_il 2 9 (zo_ic 1 (1) (zo_iadd (zo_is 2 11 (pz_Z X 13)))))) 148 lv st g c s → pz_Z X 13 148 lv st g c s := (zs_istore hX dX10_round_148 (by decide) (zs_iload hX dX10_round_150 (zs_iconst hX dX10_round_152 (by decide) (zs_iadd hX dX10_round_153 (zs_istore hX dX10_round_154 (by decide) (fun _ _ _ _ _ h => h))))))
set_option maxRecDepth 20000 in
theorem bX10_round_156 {X : pz_C} (hX : pz_X X cX10_round 13 RX10) : ∀ lv st g c s, (zo_il 2 11 (zo_al 1 0 (zo_get 12 3 (zo_il 2 5 (zo_iald (zo_ic_ge 252 (pz_Z X 13))))))) 156 lv st g c s → pz_Z X 13 156 lv st g c s := (zs_iload hX dX10_round_156 (zs_aload_n hX dX10_round_158 rfl (zs_get hX (C := RX10) (T := TX10) (N := 37) rfl in_X10 (by decide) mw_6c7416b9 dX10_round_159 (zs_iload hX dX10_round_162 (zs_iald hX dX10_round_164 (zs_ic_ge hX dX10_round_165 (by decide) (fun _ _ _ _ _ _ h => h)))))))
set_option maxRecDepth 20000 in
theorem bX10_round_168 {X : pz_C} (hX : pz_X X cX10_round 13 RX10) : ∀ lv st g c s, (zo_il 2 10 (zo_if_eq 252 (pz_Z X 13))) 168 lv st g c s → pz_Z X 13 168 lv st g c s := (zs_iload hX dX10_round_168 (zs_if_eq hX dX10_round_170 (by decide) (fun _ _ _ _ _ _ h => h)))
set_option maxRecDepth 20000 in
theorem bX10_round_173 {X : pz_C} (hX : pz_X X cX10_round 13 RX10) : ∀ lv st g c s, (zo_ic 2 (100) (zo_il 1 1 (zo_imul (zo_al 1 0 (zo_get 12 4 (zo_ic 2 (12) (zo_il 2 5 (zo_imul (zo_il 2 11 (zo_iadd (zo_iald (zo_iadd (zo_is 2 12 (zo_al 1 0 (zo_get 12 21 (zo_il 2 12 (zo_al 1 0 (zo_il 2 9 (zo_il 2 11 (pz_Z X 13)))))))))))))))))))) 173 lv st g c s → pz_Z X 13 173 lv st g c s := (zs_bipush hX dX10_round_173 (by decide) (zs_iload_n hX dX10_round_175 rfl (zs_imul hX dX10_round_176 (zs_aload_n hX dX10_round_177 rfl (zs_get hX (C := RX10) (T := TX10) (N := 37) rfl in_X10 (by decide) mw_d81b3427 dX10_round_178 (zs_bipush hX dX10_round_181 (by decide) (zs_iload hX dX10_round_183 (zs_imul hX dX10_round_185 (zs_iload hX dX10_round_186 (zs_iadd hX dX10_round_188 (zs_iald hX dX10_round_189 (zs_iadd hX dX10_round_190 (zs_istore hX dX10_round_191 (by decide) (zs_aload_n hX dX10_round_193 rfl (zs_get hX (C := RX10) (T := TX10) (N := 37) rfl in_X10 (by decide) mw_2f85e0df dX10_round_194 (zs_iload hX dX10_round_197 (zs_aload_n hX dX10_round_199 rfl (zs_iload hX dX10_round_200 (zs_iload hX dX10_round_202 (fun _ _ _ _ _ h => h))))))))))))))))))))
set_option maxRecDepth 20000 in
theorem bX10_round_204 {X : pz_C} {G : pz_Gx} {rm : Room} (hX : pz_X X cX10_round 13 RX10) (hrm : pz_rm X = rm) (hGX : pz_GX X G) (hOk : pz_OK G) (gh : gt_X10_isLeg) (hr_X10_isLeg : rm_X10_isLeg.frames + 1 ≤ rm.frames ∧ 8 + (3 + 11) + rm_X10_isLeg.locals ≤ rm.locals) : ∀ lv st g c s, (zo_cV rm 12 2 3 rm_X10_isLeg.cells rm_X10_isLeg.slots (pr_X10_isLeg gh) (po_X10_isLeg gh) (zo_kz (zo_if_eq 238 (pz_Z X 13)))) 204 lv st g c s → pz_Z X 13 204 lv st g c s := by
  subst hrm
  exact (zs_csV hX hGX (C := RX10) (T := TX10) (N := 37) rfl (ct_X10_isLeg hOk gh) mw_9fdd040c mw_f42fee7f mw_2eae6606 mw_33939a39 mw_12b9c6e3 (by decide +kernel) hr_X10_isLeg dX10_round_204 (zs_kz (zs_if_eq hX dX10_round_207 (by decide) (fun _ _ _ _ _ _ h => h))))
set_option maxRecDepth 20000 in
theorem bX10_round_210 {X : pz_C} (hX : pz_X X cX10_round 13 RX10) : ∀ lv st g c s, (zo_al 1 0 (zo_get 12 29 (zo_il 2 11 (zo_lald (zo_al 1 0 (zo_get 12 21 (zo_il 2 12 (zo_lald (zo_lcmp (zo_if_ge 238 (pz_Z X 13))))))))))) 210 lv st g c s → pz_Z X 13 210 lv st g c s := (zs_aload_n hX dX10_round_210 rfl (zs_get hX (C := RX10) (T := TX10) (N := 37) rfl in_X10 (by decide) mw_4cf35770 dX10_round_211 (zs_iload hX dX10_round_214 (zs_lald hX dX10_round_216 (zs_aload_n hX dX10_round_217 rfl (zs_get hX (C := RX10) (T := TX10) (N := 37) rfl in_X10 (by decide) mw_2f85e0df dX10_round_218 (zs_iload hX dX10_round_221 (zs_lald hX dX10_round_223 (zs_lcmp hX dX10_round_224 (zs_if_ge hX dX10_round_225 (by decide) (fun _ _ _ _ _ _ h => h)))))))))))
set_option maxRecDepth 20000 in
theorem bX10_round_228 {X : pz_C} (hX : pz_X X cX10_round 13 RX10) : ∀ lv st g c s, (zo_al 1 0 (zo_get 12 29 (zo_il 2 11 (zo_lald (zo_goto 245 (pz_Z X 13)))))) 228 lv st g c s → pz_Z X 13 228 lv st g c s := (zs_aload_n hX dX10_round_228 rfl (zs_get hX (C := RX10) (T := TX10) (N := 37) rfl in_X10 (by decide) mw_4cf35770 dX10_round_229 (zs_iload hX dX10_round_232 (zs_lald hX dX10_round_234 (zs_goto hX dX10_round_235 (by decide) (fun _ _ _ _ _ _ h => h))))))
set_option maxRecDepth 20000 in
theorem bX10_round_238 {X : pz_C} (hX : pz_X X cX10_round 13 RX10) : ∀ lv st g c s, (zo_al 1 0 (zo_get 12 21 (zo_il 2 12 (zo_lald (pz_Z X 13))))) 238 lv st g c s → pz_Z X 13 238 lv st g c s := (zs_aload_n hX dX10_round_238 rfl (zs_get hX (C := RX10) (T := TX10) (N := 37) rfl in_X10 (by decide) mw_2f85e0df dX10_round_239 (zs_iload hX dX10_round_242 (zs_lald hX dX10_round_244 (fun _ _ _ _ _ h => h)))))
set_option maxRecDepth 20000 in
theorem bX10_round_245 {X : pz_C} (hX : pz_X X cX10_round 13 RX10) : ∀ lv st g c s, (zo_last (zo_inc 11 (1) (zo_goto 156 (pz_Z X 13)))) 245 lv st g c s → pz_Z X 13 245 lv st g c s := (zs_last hX dX10_round_245 (zs_iinc hX dX10_round_246 (by decide) (by decide) (zs_goto hX dX10_round_249 (by decide) (fun _ _ _ _ _ _ h => h))))
set_option maxRecDepth 20000 in
theorem bX10_round_252 {X : pz_C} (hX : pz_X X cX10_round 13 RX10) : ∀ lv st g c s, (zo_inc 9 (1) (zo_goto 93 (pz_Z X 13))) 252 lv st g c s → pz_Z X 13 252 lv st g c s := (zs_iinc hX dX10_round_252 (by decide) (by decide) (zs_goto hX dX10_round_255 (by decide) (fun _ _ _ _ _ _ h => h)))
set_option maxRecDepth 20000 in
theorem bX10_round_258 {X : pz_C} (hX : pz_X X cX10_round 13 RX10) : ∀ lv st g c s, (zo_ll 2 6 (zo_lc 1 (1) (zo_ladd (zo_lst 2 6 (zo_goto 65 (pz_Z X 13)))))) 258 lv st g c s → pz_Z X 13 258 lv st g c s := (zs_lload hX dX10_round_258 (zs_lconst hX dX10_round_260 (by decide) (zs_ladd hX dX10_round_261 (zs_lstore hX dX10_round_262 (by decide) (zs_goto hX dX10_round_264 (by decide) (fun _ _ _ _ _ _ h => h))))))
set_option maxRecDepth 20000 in
theorem bX10_round_267 {X : pz_C} (hX : pz_X X cX10_round 13 RX10) : ∀ lv st g c s, (zo_inc 5 (1) (zo_goto 45 (pz_Z X 13))) 267 lv st g c s → pz_Z X 13 267 lv st g c s := (zs_iinc hX dX10_round_267 (by decide) (by decide) (zs_goto hX dX10_round_270 (by decide) (fun _ _ _ _ _ _ h => h)))
set_option maxRecDepth 20000 in
theorem bX10_round_273 {X : pz_C} {rm : Room} {E : Option pz_V → pz_H → Prop} (hX : pz_X X cX10_round 13 RX10) (hR : pz_Rt X cX10_round 13 none rm E) : ∀ lv st g c s, (zo_rv rm E) 273 lv st g c s → pz_Z X 13 273 lv st g c s := (zs_rv hR dX10_round_273)
def rm_X10_round : Room := { frames := 3, cells := 0, slots := 0, locals := 78 }
abbrev gt_X10_round : Type := (Nat × Nat × Nat) × (Nat × Nat × Nat × Nat × (Nat → Nat)) × mo_T
def pr_X10_round : gt_X10_round → List pz_V → pz_H → Prop := fun ((lb, from', T), (nl, ne, nz, nw, cn), (mo, M, I, Ai, Aj)) av g => av = [.inr (.inr (some mo)), .inl (nI (lb + 1)), .inl (nI from'), .inr (.inl (lN T))] ∧ lb < 6 ∧ from' < 100 ∧ T ≤ 1700000000 ∧ moW I Ai nl ne nz nw cn ∧ moS g mo M I Ai Aj
def po_X10_round : gt_X10_round → List pz_V → pz_H → Option pz_V → pz_H → Prop := fun ((lb, from', T), (nl, ne, nz, nw, cn), (mo, M, I, Ai, Aj)) _ g v g' => v = none ∧ hg moL g g' ∧ ∃ Aj', moS g' mo M I Ai Aj' ∧ agJ [21, 29, 30] Aj Aj' ∧ Aj' 21 = me_l Ai Aj ne nz nw cn lb from' T nl (me_c lb 100 (Aj 21))
set_option maxRecDepth 20000 in
set_option maxHeartbeats 4000000 in
theorem ct_X10_round {G : pz_Gx} (hOk : pz_OK G) (gh : gt_X10_round) : pz_M G yX10_round cX10_round 13 none rm_X10_round (pr_X10_round gh) (po_X10_round gh) := by
  obtain ⟨⟨lb, from', T⟩, ⟨nl, ne, nz, nw, cn⟩, mo, M, I, Ai, Aj⟩ := gh
  refine pz_ofZ (by decide) hOk.1 (Or.inl rfl) ?_ ?_
  · rintro av g ⟨rfl, -⟩
    exact Nat.le_of_ble_eq_true rfl
  · rintro X hX hGX hrm - av g ⟨rfl, hlb, hfr, hT, ⟨⟨hnl, hnl40⟩, ⟨hne, hne100, h01⟩, ⟨hnz, hnz100⟩, ⟨hnw, hnw100⟩, hcn⟩, hm⟩ hR
    have hn1 : nI (lb + 1) - 1 = nI lb := ni_pred (n := lb + 1) (by omega)
    -- j
    have loopJ : ∀ (l r i : Nat) (Fi Fo : Nat → Int64), l < nl → i < cn l → ∀ (m j : Nat) (gk : pz_H) (A : Nat → Nat → Int64), j + m = cn l → hg moL g gk → moS gk mo M I Ai A → agJ [21, 29, 30] Aj A → (∀ k, k < cn l → A 29 k = Fi k ∧ A 30 k = Fo k) → (∀ (g2 : pz_H) (A2 : Nat → Nat → Int64), hg moL g g2 → moS g2 mo M I Ai A2 → agJ [21, 29, 30] Aj A2 → (∀ k, k < cn l → A2 29 k = Fi k ∧ A2 30 k = Fo k) → A2 21 = me_j Ai lb l i Fi Fo j m (A 21) → pz_Z X 13 252 [(9, .inl (nI i)), (8, .inl 1), (6, .inr (.inl (dy T r))), (5, .inl (nI l)), (0, .inr (.inr (some mo))), (1, .inl (nI (lb + 1))), (2, .inl (nI from')), (3, .inr (.inl (lN T)))] [] g2 0 0) → pz_Z X 13 156 [(11, .inl (nI j)), (10, .inl 1), (9, .inl (nI i)), (8, .inl 1), (6, .inr (.inl (dy T r))), (5, .inl (nI l)), (0, .inr (.inr (some mo))), (1, .inl (nI (lb + 1))), (2, .inl (nI from')), (3, .inr (.inl (lN T)))] [] gk 0 0 := by
      intro l r i Fi Fo hl hi m
      obtain ⟨hc3, hc12, hcp⟩ := hcn l hl
      have hli : vp_in (nI l) 40 := ni_in (by omega) (by omega)
      have hlc : (nI l).toNatClampNeg = l := ni_cl (by omega)
      induction m with
      | zero =>
        intro j gk A hj hS hmk hag hf kont
        have h3 : gk (M 3) = some ([101, 3], ar_i 40 (Ai 3)) := hmk.2.1 3 (by decide)
        refine bX10_round_156 hX _ _ _ _ _ ⟨_, _, _, hmk.1, rfl, _, _, _, h3, hli, ?_⟩
        rw [hlc, hc3]
        refine ⟨fun _ => ?_, fun q => absurd ((ni_le (by omega) (by omega)).mpr (by omega)) q⟩
        exact pz_lsub (by exact ⟨rfl, rfl, rfl, rfl, rfl, rfl, rfl, rfl, trivial⟩) (kont gk A hS hmk hag hf rfl)
      | succ m ih =>
        intro j gk A hj hS hmk hag hf kont
        have h3 : gk (M 3) = some ([101, 3], ar_i 40 (Ai 3)) := hmk.2.1 3 (by decide)
        have h4 : gk (M 4) = some ([101, 4], ar_i 480 (Ai 4)) := hmk.2.1 4 (by decide)
        have h21 : gk (M 21) = some ([101, 21], ar_j 700 (A 21)) := hmk.2.2.2 21 (by decide)
        have h29 : gk (M 29) = some ([101, 29], ar_j 12 (A 29)) := hmk.2.2.2 29 (by decide)
        obtain ⟨p, hp, hP⟩ := hcp j (by omega)
        have hme : me_a Ai lb l j = 100 * (lb + 1) + p := by unfold me_a; rw [hP, ni_cl (by omega)]
        have hjc : (nI j).toNatClampNeg = j := ni_cl (by omega)
        have hji : vp_in (nI j) 12 := ni_in (by omega) (by omega)
        have hac : (nI (me_a Ai lb l j)).toNatClampNeg = me_a Ai lb l j := ni_cl (by omega)
        have hai : vp_in (nI (me_a Ai lb l j)) 700 := ni_in (by omega) (by omega)
        refine bX10_round_156 hX _ _ _ _ _ ⟨_, _, _, hmk.1, rfl, _, _, _, h3, hli, ?_⟩
        rw [hlc, hc3]
        refine ⟨fun q => absurd ((ni_le (by omega) (by omega)).mp q) (by omega), fun _ => ?_⟩
        refine bX10_round_168 hX _ _ _ _ _ ⟨fun q => absurd q (by decide), fun _ => ?_⟩
        refine bX10_round_173 hX _ _ _ _ _ ⟨_, _, _, hmk.1, rfl, _, _, _, h4, by rw [ix_12]; exact ni_in (by omega) (by omega), ?_⟩
        rw [ix_12, ni_cl (j := 12 * l + j) (by omega), hP, show (100 : Int32) * nI (lb + 1) = nI (100 * (lb + 1)) from pk_mul 100 _]
        refine ⟨_, _, _, hmk.1, rfl, ?_⟩
        rw [nI_add, ← hme]
        refine bX10_round_204 hX hrm hGX hOk ((i, j), (mo, M, I, Ai, A)) (by decide) _ _ _ _ _ ⟨Nat.le_of_ble_eq_true rfl, ⟨mo, [.inl (nI i), .inl (nI j)], [100], _, rfl, hmk.1⟩, Nat.le_of_ble_eq_true rfl, Nat.le_of_ble_eq_true rfl, Nat.le_of_ble_eq_true rfl, ⟨rfl, by omega, by omega, hmk⟩, ?_⟩
        rintro v g2 ⟨rfl, rfl⟩ y hy -
        cases hy
        -- the store
        have st : ∀ x : Int64, vp_updL (A 21) (me_a Ai lb l j) x = (if Fo i ≤ Fi j ∧ Fi j < A 21 (me_a Ai lb l j) then vp_updL (A 21) (me_a Ai lb l j) (Fi j) else A 21) → pz_Z X 13 245 [(12, .inl (nI (me_a Ai lb l j))), (11, .inl (nI j)), (10, .inl 1), (9, .inl (nI i)), (8, .inl 1), (6, .inr (.inl (dy T r))), (5, .inl (nI l)), (0, .inr (.inr (some mo))), (1, .inl (nI (lb + 1))), (2, .inl (nI from')), (3, .inr (.inl (lN T)))] [.inr (.inl x), .inl (nI (me_a Ai lb l j)), .inr (.inr (some (M 21)))] g2 0 0 := by
          intro x hx
          obtain ⟨hm2, hS2⟩ := mo_j hmk 21 (by decide) (vp_updL (A 21) (me_a Ai lb l j) x)
          refine bX10_round_245 hX _ _ _ _ _ ⟨_, _, _, h21, hai, ?_⟩
          rw [hac]
          refine pz_lsub (lv' := [(11, .inl (nI (j + 1))), (10, .inl 1), (9, .inl (nI i)), (8, .inl 1), (6, .inr (.inl (dy T r))), (5, .inl (nI l)), (0, .inr (.inr (some mo))), (1, .inl (nI (lb + 1))), (2, .inl (nI from')), (3, .inr (.inl (lN T)))]) ⟨ni_inc, rfl, rfl, rfl, rfl, rfl, rfl, rfl, rfl, rfl, trivial⟩ ?_
          refine ih (j + 1) _ _ (by omega) (hg_tr hS hS2) hm2 (agJ_sq hag (by decide)) hf (fun g3 A3 a1 a2 a3 a4 a5 => kont g3 A3 a1 a2 a3 a4 ?_)
          rw [a5, seqJ_at, hx]
          rfl
        refine ⟨fun q => ?_, fun q => ?_⟩
        · rw [b01_z, (hf i hi).2, (hf j (by omega)).1] at q
          refine bX10_round_238 hX _ _ _ _ _ ⟨_, _, _, hmk.1, rfl, _, _, _, h21, hai, ?_⟩
          rw [hac]
          refine st _ ?_
          rw [if_neg (fun z => of_decide_eq_false q z.1), upL_rf]
        · rw [b01_nz, (hf i hi).2, (hf j (by omega)).1] at q
          refine bX10_round_210 hX _ _ _ _ _ ⟨_, _, _, hmk.1, rfl, _, _, _, h29, hji, _, _, _, hmk.1, rfl, _, _, _, h21, hai, ?_⟩
          rw [hac, hjc, (hf j (by omega)).1]
          refine ⟨fun q2 => ?_, fun q2 => ?_⟩
          · refine bX10_round_238 hX _ _ _ _ _ ⟨_, _, _, hmk.1, rfl, _, _, _, h21, hai, ?_⟩
            rw [hac]
            refine st _ ?_
            rw [if_neg (fun z => absurd z.2 (Int64.not_lt.mpr ((lc_ge _ _).mp q2))), upL_rf]
          · refine bX10_round_228 hX _ _ _ _ _ ⟨_, _, _, hmk.1, rfl, _, _, _, h29, hji, ?_⟩
            rw [hjc, (hf j (by omega)).1]
            refine st _ ?_
            rw [if_pos ⟨of_decide_eq_true q, Int64.not_le.mp (fun z => q2 ((lc_ge _ _).mpr z))⟩]
    -- i
    have loopI : ∀ (l r : Nat) (Fi Fo : Nat → Int64), l < nl → ∀ (m i : Nat) (gk : pz_H) (A : Nat → Nat → Int64), i + m = cn l → hg moL g gk → moS gk mo M I Ai A → agJ [21, 29, 30] Aj A → (∀ k, k < cn l → A 29 k = Fi k ∧ A 30 k = Fo k) → (∀ (g2 : pz_H) (A2 : Nat → Nat → Int64), hg moL g g2 → moS g2 mo M I Ai A2 → agJ [21, 29, 30] Aj A2 → A2 21 = me_i Ai lb from' T l (cn l) Fi Fo i m (A 21) → pz_Z X 13 258 [(6, .inr (.inl (dy T r))), (5, .inl (nI l)), (0, .inr (.inr (some mo))), (1, .inl (nI (lb + 1))), (2, .inl (nI from')), (3, .inr (.inl (lN T)))] [] g2 0 0) → pz_Z X 13 93 [(9, .inl (nI i)), (8, .inl 1), (6, .inr (.inl (dy T r))), (5, .inl (nI l)), (0, .inr (.inr (some mo))), (1, .inl (nI (lb + 1))), (2, .inl (nI from')), (3, .inr (.inl (lN T)))] [] gk 0 0 := by
      intro l r Fi Fo hl m
      obtain ⟨hc3, hc12, hcp⟩ := hcn l hl
      have hli : vp_in (nI l) 40 := ni_in (by omega) (by omega)
      have hlc : (nI l).toNatClampNeg = l := ni_cl (by omega)
      induction m with
      | zero =>
        intro i gk A hi hS hmk hag hf kont
        have h3 : gk (M 3) = some ([101, 3], ar_i 40 (Ai 3)) := hmk.2.1 3 (by decide)
        refine bX10_round_93 hX _ _ _ _ _ ⟨_, _, _, hmk.1, rfl, _, _, _, h3, hli, ?_⟩
        rw [hlc, hc3]
        refine ⟨fun _ => ?_, fun q => absurd ((ni_le (by omega) (by omega)).mpr (by omega)) q⟩
        exact pz_lsub (by exact ⟨rfl, rfl, rfl, rfl, rfl, rfl, trivial⟩) (kont gk A hS hmk hag rfl)
      | succ m ih =>
        intro i gk A hi hS hmk hag hf kont
        have h3 : gk (M 3) = some ([101, 3], ar_i 40 (Ai 3)) := hmk.2.1 3 (by decide)
        have h4 : gk (M 4) = some ([101, 4], ar_i 480 (Ai 4)) := hmk.2.1 4 (by decide)
        have h30 : gk (M 30) = some ([101, 30], ar_j 12 (A 30)) := hmk.2.2.2 30 (by decide)
        obtain ⟨p, hp, hP⟩ := hcp i (by omega)
        have hic : (nI i).toNatClampNeg = i := ni_cl (by omega)
        have hii : vp_in (nI i) 12 := ni_in (by omega) (by omega)
        refine bX10_round_93 hX _ _ _ _ _ ⟨_, _, _, hmk.1, rfl, _, _, _, h3, hli, ?_⟩
        rw [hlc, hc3]
        refine ⟨fun q => absurd ((ni_le (by omega) (by omega)).mp q) (by omega), fun _ => ?_⟩
        refine bX10_round_105 hX _ _ _ _ _ ⟨fun q => absurd q (by decide), fun _ => ?_⟩
        refine bX10_round_110 hX _ _ _ _ _ ⟨_, _, _, hmk.1, rfl, _, _, _, h30, hii, _, _, _, hmk.1, rfl, _, _, _, h4, by rw [ix_12]; exact ni_in (by omega) (by omega), ?_⟩
        rw [ix_12, ni_cl (j := 12 * l + i) (by omega), hP, hic, (hf i (by omega)).2]
        rw [hn1]
        refine bX10_round_136 hX hrm hGX hOk ((lb, p, from', lN T), (mo, M, I, Ai, A)) (by decide) _ _ _ _ _ ⟨Nat.le_of_ble_eq_true rfl, ⟨mo, [.inl (nI lb), .inl (nI p), .inl (nI from'), .inr (.inl (lN T))], [100], _, rfl, hmk.1⟩, Nat.le_of_ble_eq_true rfl, Nat.le_of_ble_eq_true rfl, Nat.le_of_ble_eq_true rfl, ⟨rfl, by omega, hp, hfr, hmk⟩, ?_⟩
        rintro v g2 ⟨rfl, rfl⟩ y hy
        cases hy
        have hmq : mq_r Ai A lb p from' (lN T) = mqe (Ai 20) (A 21) lb (Ai 4 (12 * l + i)).toNatClampNeg from' (lN T) := by
          rw [hP, ni_cl (j := p) (by omega)]; rfl
        rw [hmq]
        have nx : ∀ (g3 : pz_H) (A3 : Nat → Nat → Int64), hg moL g g3 → moS g3 mo M I Ai A3 → agJ [21, 29, 30] Aj A3 → (∀ k, k < cn l → A3 29 k = Fi k ∧ A3 30 k = Fo k) → A3 21 = (if mqe (Ai 20) (A 21) lb (Ai 4 (12 * l + i)).toNatClampNeg from' (lN T) ≤ Fo i then me_j Ai lb l i Fi Fo (i + 1) (cn l - (i + 1)) (A 21) else A 21) → pz_Z X 13 252 [(9, .inl (nI i)), (8, .inl 1), (6, .inr (.inl (dy T r))), (5, .inl (nI l)), (0, .inr (.inr (some mo))), (1, .inl (nI (lb + 1))), (2, .inl (nI from')), (3, .inr (.inl (lN T)))] [] g3 0 0 := by
          intro g3 A3 a1 a2 a3 a4 a5
          refine bX10_round_252 hX _ _ _ _ _ ?_
          refine pz_lsub (lv' := [(9, .inl (nI (i + 1))), (8, .inl 1), (6, .inr (.inl (dy T r))), (5, .inl (nI l)), (0, .inr (.inr (some mo))), (1, .inl (nI (lb + 1))), (2, .inl (nI from')), (3, .inr (.inl (lN T)))]) ⟨ni_inc, rfl, rfl, rfl, rfl, rfl, rfl, rfl, trivial⟩ ?_
          refine ih (i + 1) g3 A3 (by omega) a1 a2 a3 a4 (fun g4 A4 b1 b2 b3 b4 => kont g4 A4 b1 b2 b3 ?_)
          rw [b4, a5]
          rfl
        refine ⟨fun q => ?_, fun q => ?_⟩
        · have hlt := (lc_lt _ _).mp q
          refine bX10_round_147 hX _ _ _ _ _ ?_
          refine bX10_round_148 hX _ _ _ _ _ ?_
          refine pz_lsub (lv' := [(11, .inl (nI (i + 1))), (10, .inl 0), (9, .inl (nI i)), (8, .inl 1), (6, .inr (.inl (dy T r))), (5, .inl (nI l)), (0, .inr (.inr (some mo))), (1, .inl (nI (lb + 1))), (2, .inl (nI from')), (3, .inr (.inl (lN T)))]) ⟨ni_inc, rfl, rfl, rfl, rfl, rfl, rfl, rfl, rfl, rfl, trivial⟩ ?_
          refine bX10_round_156 hX _ _ _ _ _ ⟨_, _, _, hmk.1, rfl, _, _, _, h3, hli, ?_⟩
          have hend : ∀ lv : pz_L, pz_all lv [(9, .inl (nI i)), (8, .inl 1), (6, .inr (.inl (dy T r))), (5, .inl (nI l)), (0, .inr (.inr (some mo))), (1, .inl (nI (lb + 1))), (2, .inl (nI from')), (3, .inr (.inl (lN T)))] → pz_Z X 13 252 lv [] g2 0 0 := fun lv h => pz_lsub h (nx g2 A hS hmk hag hf (by rw [if_neg (Int64.not_le.mpr hlt)]))
          refine ⟨fun _ => hend _ ⟨rfl, rfl, rfl, rfl, rfl, rfl, rfl, rfl, trivial⟩, fun _ => ?_⟩
          refine bX10_round_168 hX _ _ _ _ _ ⟨fun _ => hend _ ⟨rfl, rfl, rfl, rfl, rfl, rfl, rfl, rfl, trivial⟩, fun q2 => absurd rfl q2⟩
        · have hle := Int64.not_lt.mp (fun z => q ((lc_lt _ _).mpr z))
          refine bX10_round_143 hX _ _ _ _ _ ?_
          refine bX10_round_148 hX _ _ _ _ _ ?_
          refine pz_lsub (lv' := [(11, .inl (nI (i + 1))), (10, .inl 1), (9, .inl (nI i)), (8, .inl 1), (6, .inr (.inl (dy T r))), (5, .inl (nI l)), (0, .inr (.inr (some mo))), (1, .inl (nI (lb + 1))), (2, .inl (nI from')), (3, .inr (.inl (lN T)))]) ⟨ni_inc, rfl, rfl, rfl, rfl, rfl, rfl, rfl, rfl, rfl, trivial⟩ ?_
          refine loopJ l r i Fi Fo hl (by omega) (cn l - (i + 1)) (i + 1) g2 A (by omega) hS hmk hag hf (fun g3 A3 a1 a2 a3 a4 a5 => nx g3 A3 a1 a2 a3 a4 ?_)
          rw [if_pos hle]
          exact a5
    -- days
    have loopD : ∀ (l : Nat), l < nl → ∀ (m r : Nat) (gk : pz_H) (A : Nat → Nat → Int64), r + m = 13 → hg moL g gk → moS gk mo M I Ai A → agJ [21, 29, 30] Aj A → A 21 = me_d Ai Aj ne nz nw cn lb from' T l r (me_l Ai Aj ne nz nw cn lb from' T l (me_c lb 100 (Aj 21))) → (∀ (g2 : pz_H) (A2 : Nat → Nat → Int64), hg moL g g2 → moS g2 mo M I Ai A2 → agJ [21, 29, 30] Aj A2 → A2 21 = me_d Ai Aj ne nz nw cn lb from' T l 13 (me_l Ai Aj ne nz nw cn lb from' T l (me_c lb 100 (Aj 21))) → pz_Z X 13 267 [(5, .inl (nI l)), (0, .inr (.inr (some mo))), (1, .inl (nI (lb + 1))), (2, .inl (nI from')), (3, .inr (.inl (lN T)))] [] g2 0 0) → pz_Z X 13 65 [(6, .inr (.inl (dy T r))), (5, .inl (nI l)), (0, .inr (.inr (some mo))), (1, .inl (nI (lb + 1))), (2, .inl (nI from')), (3, .inr (.inl (lN T)))] [] gk 0 0 := by
      intro l hl m
      obtain ⟨hc3, hc12, hcp⟩ := hcn l hl
      have hli : vp_in (nI l) 40 := ni_in (by omega) (by omega)
      have hlc : (nI l).toNatClampNeg = l := ni_cl (by omega)
      induction m with
      | zero =>
        intro r gk A hr hS hmk hag hE kont
        obtain rfl : r = 13 := by omega
        refine bX10_round_65 hX _ _ _ _ _ ⟨by decide, fun _ => ?_, fun q => absurd ((dy_gt hT (Nat.le_refl _)).mpr (Nat.le_refl _)) q⟩
        exact pz_lsub (by exact ⟨rfl, rfl, rfl, rfl, rfl, trivial⟩) (kont gk A hS hmk hag hE)
      | succ m ih =>
        intro r gk A hr hS hmk hag hE kont
        refine bX10_round_65 hX _ _ _ _ _ ⟨by decide, fun q => absurd ((dy_gt hT (by omega)).mp q) (by omega), fun _ => ?_⟩
        refine bX10_round_80 hX _ _ _ _ _ ?_
        refine bX10_round_85 hX hrm hGX hOk ((l, dy T r), (ne, nz, nw, cn l), (mo, M, I, Ai, A)) (by decide) _ _ _ _ _ ⟨Nat.le_of_ble_eq_true rfl, ⟨mo, [.inl (nI l), .inr (.inl (dy T r))], [100], _, rfl, hmk.1⟩, Nat.le_of_ble_eq_true rfl, Nat.le_of_ble_eq_true rfl, Nat.le_of_ble_eq_true rfl, ⟨rfl, by omega, hne, hne100, h01, hnz, hnz100, hnw, hnw100, hc3, hc12, hmk⟩, ?_⟩
        rintro v g2 ⟨rfl, hS2, fi, fo, hm2, hft⟩ y hy hy01
        cases hy
        rw [mr_ag hag (by decide)] at hft hy01 ⊢
        have hag2 : agJ [21, 29, 30] Aj (seqJ (seqJ A 29 fi) 30 fo) := agJ_sq (agJ_sq hag (by decide)) (by decide)
        have nx : ∀ (g3 : pz_H) (A3 : Nat → Nat → Int64), hg moL g g3 → moS g3 mo M I Ai A3 → agJ [21, 29, 30] Aj A3 → A3 21 = me_d Ai Aj ne nz nw cn lb from' T l (r + 1) (me_l Ai Aj ne nz nw cn lb from' T l (me_c lb 100 (Aj 21))) → pz_Z X 13 258 [(6, .inr (.inl (dy T r))), (5, .inl (nI l)), (0, .inr (.inr (some mo))), (1, .inl (nI (lb + 1))), (2, .inl (nI from')), (3, .inr (.inl (lN T)))] [] g3 0 0 := by
          intro g3 A3 a1 a2 a3 a4
          refine bX10_round_258 hX _ _ _ _ _ ?_
          refine pz_lsub (lv' := [(6, .inr (.inl (dy T (r + 1)))), (5, .inl (nI l)), (0, .inr (.inr (some mo))), (1, .inl (nI (lb + 1))), (2, .inl (nI from')), (3, .inr (.inl (lN T)))]) ⟨dy_inc, rfl, rfl, rfl, rfl, rfl, trivial⟩ ?_
          exact ih (r + 1) g3 A3 (by omega) a1 a2 a3 a4 kont
        have hA21 : seqJ (seqJ A 29 fi) 30 fo 21 = A 21 := rfl
        rcases hy01 with hz | hz
        · rw [hz]
          have h3 : g2 (M 3) = some ([101, 3], ar_i 40 (Ai 3)) := hm2.2.1 3 (by decide)
          have hend : ∀ lv : pz_L, pz_all lv [(6, .inr (.inl (dy T r))), (5, .inl (nI l)), (0, .inr (.inr (some mo))), (1, .inl (nI (lb + 1))), (2, .inl (nI from')), (3, .inr (.inl (lN T)))] → pz_Z X 13 258 lv [] g2 0 0 := fun lv h => pz_lsub h (nx g2 _ (hg_tr hS hS2) hm2 hag2 (by
            rw [hA21, hE]
            show _ = if _ then _ else _
            rw [hz, if_neg (by decide)]))
          refine bX10_round_93 hX _ _ _ _ _ ⟨_, _, _, hm2.1, rfl, _, _, _, h3, hli, ?_⟩
          refine ⟨fun _ => hend _ ⟨rfl, rfl, rfl, rfl, rfl, rfl, trivial⟩, fun _ => ?_⟩
          refine bX10_round_105 hX _ _ _ _ _ ⟨fun _ => hend _ ⟨rfl, rfl, rfl, rfl, rfl, rfl, trivial⟩, fun q2 => absurd rfl q2⟩
        · rw [hz]
          refine pz_lsub (lv' := [(9, .inl (nI 0)), (8, .inl 1), (6, .inr (.inl (dy T r))), (5, .inl (nI l)), (0, .inr (.inr (some mo))), (1, .inl (nI (lb + 1))), (2, .inl (nI from')), (3, .inr (.inl (lN T)))]) ⟨rfl, rfl, rfl, rfl, rfl, rfl, rfl, rfl, trivial⟩ ?_
          refine loopI l r (fun k => mt_t Ai Aj nz nw l (dy T r) k false) (fun k => mt_t Ai Aj nz nw l (dy T r) k true) hl (cn l) 0 g2 _ (by omega) (hg_tr hS hS2) hm2 hag2 (fun k hk => ?_) (fun g3 A3 a1 a2 a3 a4 => nx g3 A3 a1 a2 a3 ?_)
          · have := hft hz k hk
            rw [mt_ag hag (by decide), mt_ag hag (by decide)] at this
            exact this
          · rw [a4, hA21, hE]
            show _ = if _ then _ else _
            rw [hz, if_pos rfl]
    -- lines
    have loopL : ∀ (m l : Nat) (gk : pz_H) (A : Nat → Nat → Int64), l + m = nl → hg moL g gk → moS gk mo M I Ai A → agJ [21, 29, 30] Aj A → A 21 = me_l Ai Aj ne nz nw cn lb from' T l (me_c lb 100 (Aj 21)) → pz_Z X 13 45 [(5, .inl (nI l)), (0, .inr (.inr (some mo))), (1, .inl (nI (lb + 1))), (2, .inl (nI from')), (3, .inr (.inl (lN T)))] [] gk 0 0 := by
      intro m
      induction m with
      | zero =>
        intro l gk A hl hS hmk hag hE
        obtain rfl : l = nl := by omega
        refine bX10_round_45 hX _ _ _ _ _ ⟨_, _, _, hmk.1, rfl, fun _ => ?_, fun q => absurd (by rw [hnl]; exact Int32.le_refl _) q⟩
        exact bX10_round_273 hX hR _ _ _ _ _ ⟨Nat.le_refl _, Nat.le_refl _, rfl, hS, A, hmk, hag, hE⟩
      | succ m ih =>
        intro l gk A hl hS hmk hag hE
        refine bX10_round_45 hX _ _ _ _ _ ⟨_, _, _, hmk.1, rfl, fun q => absurd ((ni_le (by omega) (by omega)).mp (hnl ▸ q)) (by omega), fun _ => ?_⟩
        refine bX10_round_54 hX _ _ _ _ _ ⟨by decide, ?_⟩
        refine pz_lsub (lv' := [(6, .inr (.inl (dy T 0))), (5, .inl (nI l)), (0, .inr (.inr (some mo))), (1, .inl (nI (lb + 1))), (2, .inl (nI from')), (3, .inr (.inl (lN T)))]) ⟨dy_ini, rfl, rfl, rfl, rfl, rfl, trivial⟩ ?_
        refine loopD l (by omega) 13 0 gk A (by omega) hS hmk hag (by rw [hE]; rfl) (fun g2 A2 a1 a2 a3 a4 => ?_)
        refine bX10_round_267 hX _ _ _ _ _ ?_
        refine pz_lsub (lv' := [(5, .inl (nI (l + 1))), (0, .inr (.inr (some mo))), (1, .inl (nI (lb + 1))), (2, .inl (nI from')), (3, .inr (.inl (lN T)))]) ⟨ni_inc, rfl, rfl, rfl, rfl, trivial⟩ ?_
        exact ih (l + 1) g2 A2 (by omega) a1 a2 a3 (by rw [a4]; rfl)
    -- the copy
    have loopC : ∀ (m p : Nat) (gk : pz_H) (A : Nat → Nat → Int64), p + m = 100 → hg moL g gk → moS gk mo M I Ai A → agJ [21, 29, 30] Aj A → A 21 = me_c lb p (Aj 21) → pz_Z X 13 3 [(5, .inl (nI p)), (0, .inr (.inr (some mo))), (1, .inl (nI (lb + 1))), (2, .inl (nI from')), (3, .inr (.inl (lN T)))] [] gk 0 0 := by
      intro m
      induction m with
      | zero =>
        intro p gk A hp hS hmk hag hE
        obtain rfl : p = 100 := by omega
        refine bX10_round_3 hX _ _ _ _ _ ⟨fun _ => ?_, fun q => absurd (show (100 : Int32) ≤ nI 100 by decide) q⟩
        refine bX10_round_42 hX _ _ _ _ _ ?_
        refine pz_lsub (lv' := [(5, .inl (nI 0)), (0, .inr (.inr (some mo))), (1, .inl (nI (lb + 1))), (2, .inl (nI from')), (3, .inr (.inl (lN T)))]) ⟨rfl, rfl, rfl, rfl, rfl, trivial⟩ ?_
        exact loopL nl 0 gk A (by omega) hS hmk hag hE
      | succ m ih =>
        intro p gk A hp hS hmk hag hE
        have h21 : gk (M 21) = some ([101, 21], ar_j 700 (A 21)) := hmk.2.2.2 21 (by decide)
        refine bX10_round_3 hX _ _ _ _ _ ⟨fun q => absurd ((ni_le (a := 100) (by omega) (by omega)).mp q) (by omega), fun _ => ?_⟩
        refine bX10_round_10 hX _ _ _ _ _ ⟨_, _, _, hmk.1, rfl, _, _, _, hmk.1, rfl, _, _, _, h21, by rw [hn1, ix_100]; exact ni_in (by omega) (by omega), _, _, _, h21, by rw [ix_100]; exact ni_in (by omega) (by omega), ?_⟩
        rw [hn1, ix_100, ix_100, ni_cl (j := 100 * (lb + 1) + p) (by omega), ni_cl (j := 100 * lb + p) (by omega)]
        obtain ⟨hm2, hS2⟩ := mo_j hmk 21 (by decide) (vp_updL (A 21) (100 * (lb + 1) + p) (A 21 (100 * lb + p)))
        refine pz_lsub (lv' := [(5, .inl (nI (p + 1))), (0, .inr (.inr (some mo))), (1, .inl (nI (lb + 1))), (2, .inl (nI from')), (3, .inr (.inl (lN T)))]) ⟨ni_inc, rfl, rfl, rfl, rfl, trivial⟩ ?_
        refine ih (p + 1) _ _ (by omega) (hg_tr hS hS2) hm2 (agJ_sq hag (by decide)) ?_
        rw [seqJ_at, hE, me_cs (by omega)]
    refine bX10_round_0 hX _ _ _ _ _ ?_
    refine pz_lsub (lv' := [(5, .inl (nI 0)), (0, .inr (.inr (some mo))), (1, .inl (nI (lb + 1))), (2, .inl (nI from')), (3, .inr (.inl (lN T)))]) ⟨rfl, rfl, rfl, rfl, rfl, trivial⟩ ?_
    exact loopC 100 0 g Aj (by omega) hg_rf hm agJ_rf me_c0.symm
