/-! the reference: choose, the least last leg -/
section MC
variable (Ai : Nat → Nat → Int32) (Aj : Nat → Nat → Int64) (ne nz nw : Nat) (cn : Nat → Nat) (lb from' T to : Nat)
def mc_p (l : Nat) (fi fo : Nat → Int64) (j i : Nat) : Bool := decide (fo i ≤ fi j) && decide (mqe (Ai 20) (Aj 21) lb (Ai 4 (12 * l + i)).toNatClampNeg from' (lN T) ≤ fo i)
def mc_q (l : Nat) (fi fo : Nat → Int64) (j : Nat) : Bool := decide (Ai 4 (12 * l + j) = nI to) && (decide (fi j = Aj 21 (100 * (lb + 1) + to)) && (fs_s (mc_p Ai Aj lb from' T l fi fo j) 0 j).isSome)
def mc_d (l r : Nat) : Option (Nat × Nat) := if mr_run Ai Aj ne l (dy T r) = 1 then match fs_s (mc_q Ai Aj lb from' T to l (fun k => mt_t Ai Aj nz nw l (dy T r) k false) (fun k => mt_t Ai Aj nz nw l (dy T r) k true)) 1 (cn l - 1) with
    | none => none
    | some j => match fs_s (mc_p Ai Aj lb from' T l (fun k => mt_t Ai Aj nz nw l (dy T r) k false) (fun k => mt_t Ai Aj nz nw l (dy T r) k true) j) 0 j with
      | none => none
      | some i => some (j, i)
  else none
def mc_r (l : Nat) : Nat → Nat → Option (Nat × Nat × Nat)
  | _, 0 => none
  | r, m + 1 => match mc_d Ai Aj ne nz nw cn lb from' T to l r with
    | some q => some (r, q)
    | none => mc_r l (r + 1) m
def mc_n : Nat → Nat → Option (Nat × Nat × Nat × Nat)
  | _, 0 => none
  | l, m + 1 => match mc_r Ai Aj ne nz nw cn lb from' T to l 0 13 with
    | some q => some (l, q)
    | none => mc_n (l + 1) m
end MC
set_option maxRecDepth 20000 in
theorem bX10_choose_0 {X : pz_C} (hX : pz_X X cX10_choose 13 RX10) : ∀ lv st g c s, (zo_ic 1 (0) (zo_is 2 6 (pz_Z X 13))) 0 lv st g c s → pz_Z X 13 0 lv st g c s := (zs_iconst hX dX10_choose_0 (by decide) (zs_istore hX dX10_choose_1 (by decide) (fun _ _ _ _ _ h => h)))
set_option maxRecDepth 20000 in
theorem bX10_choose_3 {X : pz_C} (hX : pz_X X cX10_choose 13 RX10) : ∀ lv st g c s, (zo_il 2 6 (zo_al 1 0 (zo_get 12 1 (zo_ic_ge 244 (pz_Z X 13))))) 3 lv st g c s → pz_Z X 13 3 lv st g c s := (zs_iload hX dX10_choose_3 (zs_aload_n hX dX10_choose_5 rfl (zs_get hX (C := RX10) (T := TX10) (N := 37) rfl in_X10 (by decide) mw_479e8e34 dX10_choose_6 (zs_ic_ge hX dX10_choose_9 (by decide) (fun _ _ _ _ _ _ h => h)))))
set_option maxRecDepth 20000 in
theorem bX10_choose_12 {X : pz_C} (hX : pz_X X cX10_choose 13 RX10) : ∀ lv st g c s, (zo_ll 2 4 (zo_lc 3 (86400) (zo_ldiv (zo_lc 3 (3) (zo_lsub (zo_lst 2 7 (pz_Z X 13))))))) 12 lv st g c s → pz_Z X 13 12 lv st g c s := (zs_lload hX dX10_choose_12 (zs_ldc2 hX dX10_choose_14 mw_e93d3cab (zs_ldiv hX dX10_choose_17 (zs_ldc2 hX dX10_choose_18 mw_ac79b3bb (zs_lsub hX dX10_choose_21 (zs_lstore hX dX10_choose_22 (by decide) (fun _ _ _ _ _ h => h)))))))
set_option maxRecDepth 20000 in
theorem bX10_choose_24 {X : pz_C} (hX : pz_X X cX10_choose 13 RX10) : ∀ lv st g c s, (zo_ll 2 7 (zo_ll 2 4 (zo_lc 3 (86400) (zo_ldiv (zo_lc 3 (9) (zo_ladd (zo_lcmp (zo_if_gt 238 (pz_Z X 13))))))))) 24 lv st g c s → pz_Z X 13 24 lv st g c s := (zs_lload hX dX10_choose_24 (zs_lload hX dX10_choose_26 (zs_ldc2 hX dX10_choose_28 mw_e93d3cab (zs_ldiv hX dX10_choose_31 (zs_ldc2 hX dX10_choose_32 mw_7663b009 (zs_ladd hX dX10_choose_35 (zs_lcmp hX dX10_choose_36 (zs_if_gt hX dX10_choose_37 (by decide) (fun _ _ _ _ _ _ h => h)))))))))
set_option maxRecDepth 20000 in
theorem bX10_choose_40 {X : pz_C} (hX : pz_X X cX10_choose 13 RX10) : ∀ lv st g c s, (zo_al 1 0 (zo_il 2 6 (zo_ll 2 7 (pz_Z X 13)))) 40 lv st g c s → pz_Z X 13 40 lv st g c s := (zs_aload_n hX dX10_choose_40 rfl (zs_iload hX dX10_choose_41 (zs_lload hX dX10_choose_43 (fun _ _ _ _ _ h => h))))
set_option maxRecDepth 20000 in
theorem bX10_choose_45 {X : pz_C} {G : pz_Gx} {rm : Room} (hX : pz_X X cX10_choose 13 RX10) (hrm : pz_rm X = rm) (hGX : pz_GX X G) (hOk : pz_OK G) (gh : gt_X10_take) (hr_X10_take : rm_X10_take.frames + 1 ≤ rm.frames ∧ 8 + (5 + 11) + rm_X10_take.locals ≤ rm.locals) : ∀ lv st g c s, (zo_cV rm 12 2 3 rm_X10_take.cells rm_X10_take.slots (pr_X10_take gh) (po_X10_take gh) (zo_kz (zo_is 2 9 (zo_ic 1 (1) (zo_is 2 10 (pz_Z X 13)))))) 45 lv st g c s → pz_Z X 13 45 lv st g c s := by
  subst hrm
  exact (zs_csV hX hGX (C := RX10) (T := TX10) (N := 37) rfl (ct_X10_take hOk gh) mw_95669e7d mw_e7ac52cd mw_62cbaf3f mw_33939a39 mw_ca7d03b2 (by decide +kernel) hr_X10_take dX10_choose_45 (zs_kz (zs_istore hX dX10_choose_48 (by decide) (zs_iconst hX dX10_choose_50 (by decide) (zs_istore hX dX10_choose_51 (by decide) (fun _ _ _ _ _ h => h))))))
set_option maxRecDepth 20000 in
theorem bX10_choose_53 {X : pz_C} (hX : pz_X X cX10_choose 13 RX10) : ∀ lv st g c s, (zo_il 2 10 (zo_al 1 0 (zo_get 12 3 (zo_il 2 6 (zo_iald (zo_ic_ge 229 (pz_Z X 13))))))) 53 lv st g c s → pz_Z X 13 53 lv st g c s := (zs_iload hX dX10_choose_53 (zs_aload_n hX dX10_choose_55 rfl (zs_get hX (C := RX10) (T := TX10) (N := 37) rfl in_X10 (by decide) mw_6c7416b9 dX10_choose_56 (zs_iload hX dX10_choose_59 (zs_iald hX dX10_choose_61 (zs_ic_ge hX dX10_choose_62 (by decide) (fun _ _ _ _ _ _ h => h)))))))
set_option maxRecDepth 20000 in
theorem bX10_choose_65 {X : pz_C} (hX : pz_X X cX10_choose 13 RX10) : ∀ lv st g c s, (zo_il 2 9 (zo_if_eq 229 (pz_Z X 13))) 65 lv st g c s → pz_Z X 13 65 lv st g c s := (zs_iload hX dX10_choose_65 (zs_if_eq hX dX10_choose_67 (by decide) (fun _ _ _ _ _ _ h => h)))
set_option maxRecDepth 20000 in
theorem bX10_choose_70 {X : pz_C} (hX : pz_X X cX10_choose 13 RX10) : ∀ lv st g c s, (zo_al 1 0 (zo_get 12 4 (zo_ic 2 (12) (zo_il 2 6 (zo_imul (zo_il 2 10 (zo_iadd (zo_iald (zo_il 1 2 (zo_ic_ne 113 (pz_Z X 13))))))))))) 70 lv st g c s → pz_Z X 13 70 lv st g c s := (zs_aload_n hX dX10_choose_70 rfl (zs_get hX (C := RX10) (T := TX10) (N := 37) rfl in_X10 (by decide) mw_d81b3427 dX10_choose_71 (zs_bipush hX dX10_choose_74 (by decide) (zs_iload hX dX10_choose_76 (zs_imul hX dX10_choose_78 (zs_iload hX dX10_choose_79 (zs_iadd hX dX10_choose_81 (zs_iald hX dX10_choose_82 (zs_iload_n hX dX10_choose_83 rfl (zs_ic_ne hX dX10_choose_84 (by decide) (fun _ _ _ _ _ _ h => h)))))))))))
set_option maxRecDepth 20000 in
theorem bX10_choose_87 {X : pz_C} (hX : pz_X X cX10_choose 13 RX10) : ∀ lv st g c s, (zo_al 1 0 (zo_get 12 29 (zo_il 2 10 (zo_lald (zo_al 1 0 (zo_get 12 21 (zo_ic 2 (100) (zo_il 1 1 (zo_imul (zo_il 1 2 (zo_iadd (zo_lald (zo_lcmp (zo_if_ne 113 (pz_Z X 13))))))))))))))) 87 lv st g c s → pz_Z X 13 87 lv st g c s := (zs_aload_n hX dX10_choose_87 rfl (zs_get hX (C := RX10) (T := TX10) (N := 37) rfl in_X10 (by decide) mw_4cf35770 dX10_choose_88 (zs_iload hX dX10_choose_91 (zs_lald hX dX10_choose_93 (zs_aload_n hX dX10_choose_94 rfl (zs_get hX (C := RX10) (T := TX10) (N := 37) rfl in_X10 (by decide) mw_2f85e0df dX10_choose_95 (zs_bipush hX dX10_choose_98 (by decide) (zs_iload_n hX dX10_choose_100 rfl (zs_imul hX dX10_choose_101 (zs_iload_n hX dX10_choose_102 rfl (zs_iadd hX dX10_choose_103 (zs_lald hX dX10_choose_104 (zs_lcmp hX dX10_choose_105 (zs_if_ne hX dX10_choose_106 (by decide) (fun _ _ _ _ _ _ h => h)))))))))))))))
set_option maxRecDepth 20000 in
theorem bX10_choose_109 {X : pz_C} (hX : pz_X X cX10_choose 13 RX10) : ∀ lv st g c s, (zo_ic 1 (1) (zo_goto 114 (pz_Z X 13))) 109 lv st g c s → pz_Z X 13 109 lv st g c s := (zs_iconst hX dX10_choose_109 (by decide) (zs_goto hX dX10_choose_110 (by decide) (fun _ _ _ _ _ _ h => h)))
set_option maxRecDepth 20000 in
theorem bX10_choose_113 {X : pz_C} (hX : pz_X X cX10_choose 13 RX10) : ∀ lv st g c s, (zo_ic 1 (0) (pz_Z X 13)) 113 lv st g c s → pz_Z X 13 113 lv st g c s := (zs_iconst hX dX10_choose_113 (by decide) (fun _ _ _ _ _ h => h))
set_option maxRecDepth 20000 in
theorem bX10_choose_114 {X : pz_C} (hX : pz_X X cX10_choose 13 RX10) : ∀ lv st g c s, (zo_is 2 11 (zo_ic 1 (0) (zo_is 2 12 (pz_Z X 13)))) 114 lv st g c s → pz_Z X 13 114 lv st g c s := (zs_istore hX dX10_choose_114 (by decide) (zs_iconst hX dX10_choose_116 (by decide) (zs_istore hX dX10_choose_117 (by decide) (fun _ _ _ _ _ h => h))))
set_option maxRecDepth 20000 in
theorem bX10_choose_119 {X : pz_C} (hX : pz_X X cX10_choose 13 RX10) : ∀ lv st g c s, (zo_il 2 12 (zo_il 2 10 (zo_ic_ge 223 (pz_Z X 13)))) 119 lv st g c s → pz_Z X 13 119 lv st g c s := (zs_iload hX dX10_choose_119 (zs_iload hX dX10_choose_121 (zs_ic_ge hX dX10_choose_123 (by decide) (fun _ _ _ _ _ _ h => h))))
set_option maxRecDepth 20000 in
theorem bX10_choose_126 {X : pz_C} (hX : pz_X X cX10_choose 13 RX10) : ∀ lv st g c s, (zo_il 2 11 (zo_if_eq 223 (pz_Z X 13))) 126 lv st g c s → pz_Z X 13 126 lv st g c s := (zs_iload hX dX10_choose_126 (zs_if_eq hX dX10_choose_128 (by decide) (fun _ _ _ _ _ _ h => h)))
set_option maxRecDepth 20000 in
theorem bX10_choose_131 {X : pz_C} (hX : pz_X X cX10_choose 13 RX10) : ∀ lv st g c s, (zo_al 1 0 (zo_il 2 12 (zo_il 2 10 (pz_Z X 13)))) 131 lv st g c s → pz_Z X 13 131 lv st g c s := (zs_aload_n hX dX10_choose_131 rfl (zs_iload hX dX10_choose_132 (zs_iload hX dX10_choose_134 (fun _ _ _ _ _ h => h))))
set_option maxRecDepth 20000 in
theorem bX10_choose_136 {X : pz_C} {G : pz_Gx} {rm : Room} (hX : pz_X X cX10_choose 13 RX10) (hrm : pz_rm X = rm) (hGX : pz_GX X G) (hOk : pz_OK G) (gh : gt_X10_isLeg) (hr_X10_isLeg : rm_X10_isLeg.frames + 1 ≤ rm.frames ∧ 8 + (3 + 11) + rm_X10_isLeg.locals ≤ rm.locals) : ∀ lv st g c s, (zo_cV rm 12 2 3 rm_X10_isLeg.cells rm_X10_isLeg.slots (pr_X10_isLeg gh) (po_X10_isLeg gh) (zo_kz (zo_if_eq 217 (pz_Z X 13)))) 136 lv st g c s → pz_Z X 13 136 lv st g c s := by
  subst hrm
  exact (zs_csV hX hGX (C := RX10) (T := TX10) (N := 37) rfl (ct_X10_isLeg hOk gh) mw_9fdd040c mw_f42fee7f mw_2eae6606 mw_33939a39 mw_12b9c6e3 (by decide +kernel) hr_X10_isLeg dX10_choose_136 (zs_kz (zs_if_eq hX dX10_choose_139 (by decide) (fun _ _ _ _ _ _ h => h))))
set_option maxRecDepth 20000 in
theorem bX10_choose_142 {X : pz_C} (hX : pz_X X cX10_choose 13 RX10) : ∀ lv st g c s, (zo_al 1 0 (zo_get 12 30 (zo_il 2 12 (zo_lald (zo_al 1 0 (zo_il 1 1 (zo_ic 1 (1) (zo_isub (zo_al 1 0 (zo_get 12 4 (zo_ic 2 (12) (zo_il 2 6 (zo_imul (zo_il 2 12 (zo_iadd (zo_iald (zo_il 1 3 (zo_ll 2 4 (pz_Z X 13))))))))))))))))))) 142 lv st g c s → pz_Z X 13 142 lv st g c s := (zs_aload_n hX dX10_choose_142 rfl (zs_get hX (C := RX10) (T := TX10) (N := 37) rfl in_X10 (by decide) mw_664a2ed3 dX10_choose_143 (zs_iload hX dX10_choose_146 (zs_lald hX dX10_choose_148 (zs_aload_n hX dX10_choose_149 rfl (zs_iload_n hX dX10_choose_150 rfl (zs_iconst hX dX10_choose_151 (by decide) (zs_isub hX dX10_choose_152 (zs_aload_n hX dX10_choose_153 rfl (zs_get hX (C := RX10) (T := TX10) (N := 37) rfl in_X10 (by decide) mw_d81b3427 dX10_choose_154 (zs_bipush hX dX10_choose_157 (by decide) (zs_iload hX dX10_choose_159 (zs_imul hX dX10_choose_161 (zs_iload hX dX10_choose_162 (zs_iadd hX dX10_choose_164 (zs_iald hX dX10_choose_165 (zs_iload_n hX dX10_choose_166 rfl (zs_lload hX dX10_choose_167 (fun _ _ _ _ _ h => h)))))))))))))))))))
set_option maxRecDepth 20000 in
theorem bX10_choose_169 {X : pz_C} {G : pz_Gx} {rm : Room} (hX : pz_X X cX10_choose 13 RX10) (hrm : pz_rm X = rm) (hGX : pz_GX X G) (hOk : pz_OK G) (gh : gt_X10_ready) (hr_X10_ready : rm_X10_ready.frames + 1 ≤ rm.frames ∧ 8 + (8 + 11) + rm_X10_ready.locals ≤ rm.locals) : ∀ lv st g c s, (zo_cV rm 12 4 3 rm_X10_ready.cells rm_X10_ready.slots (pr_X10_ready gh) (po_X10_ready gh) (zo_kl (zo_lcmp (zo_if_lt 217 (pz_Z X 13))))) 169 lv st g c s → pz_Z X 13 169 lv st g c s := by
  subst hrm
  exact (zs_csV hX hGX (C := RX10) (T := TX10) (N := 37) rfl (ct_X10_ready hOk gh) mw_f010a24d mw_3142e364 mw_32e14c6f mw_33939a39 mw_99ddfc1c (by decide +kernel) hr_X10_ready dX10_choose_169 (zs_kl (zs_lcmp hX dX10_choose_172 (zs_if_lt hX dX10_choose_173 (by decide) (fun _ _ _ _ _ _ h => h)))))
set_option maxRecDepth 20000 in
theorem bX10_choose_176 {X : pz_C} {rm : Room} {E : Option pz_V → pz_H → Prop} (hX : pz_X X cX10_choose 13 RX10) (hR : pz_Rt X cX10_choose 13 none rm E) : ∀ lv st g c s, (zo_al 1 0 (zo_get 12 23 (zo_il 1 1 (zo_ic 1 (1) (zo_isub (zo_il 2 6 (zo_iast (zo_al 1 0 (zo_get 12 24 (zo_il 1 1 (zo_ic 1 (1) (zo_isub (zo_ll 2 7 (zo_last (zo_al 1 0 (zo_get 12 25 (zo_il 1 1 (zo_ic 1 (1) (zo_isub (zo_il 2 12 (zo_iast (zo_al 1 0 (zo_get 12 26 (zo_il 1 1 (zo_ic 1 (1) (zo_isub (zo_il 2 10 (zo_iast (zo_rv rm E))))))))))))))))))))))))))))) 176 lv st g c s → pz_Z X 13 176 lv st g c s := (zs_aload_n hX dX10_choose_176 rfl (zs_get hX (C := RX10) (T := TX10) (N := 37) rfl in_X10 (by decide) mw_6928b6ad dX10_choose_177 (zs_iload_n hX dX10_choose_180 rfl (zs_iconst hX dX10_choose_181 (by decide) (zs_isub hX dX10_choose_182 (zs_iload hX dX10_choose_183 (zs_iast hX dX10_choose_185 (zs_aload_n hX dX10_choose_186 rfl (zs_get hX (C := RX10) (T := TX10) (N := 37) rfl in_X10 (by decide) mw_f2a9cd90 dX10_choose_187 (zs_iload_n hX dX10_choose_190 rfl (zs_iconst hX dX10_choose_191 (by decide) (zs_isub hX dX10_choose_192 (zs_lload hX dX10_choose_193 (zs_last hX dX10_choose_195 (zs_aload_n hX dX10_choose_196 rfl (zs_get hX (C := RX10) (T := TX10) (N := 37) rfl in_X10 (by decide) mw_6e65b301 dX10_choose_197 (zs_iload_n hX dX10_choose_200 rfl (zs_iconst hX dX10_choose_201 (by decide) (zs_isub hX dX10_choose_202 (zs_iload hX dX10_choose_203 (zs_iast hX dX10_choose_205 (zs_aload_n hX dX10_choose_206 rfl (zs_get hX (C := RX10) (T := TX10) (N := 37) rfl in_X10 (by decide) mw_7f211ead dX10_choose_207 (zs_iload_n hX dX10_choose_210 rfl (zs_iconst hX dX10_choose_211 (by decide) (zs_isub hX dX10_choose_212 (zs_iload hX dX10_choose_213 (zs_iast hX dX10_choose_215 (zs_rv hR dX10_choose_216)))))))))))))))))))))))))))))
set_option maxRecDepth 20000 in
theorem bX10_choose_217 {X : pz_C} (hX : pz_X X cX10_choose 13 RX10) : ∀ lv st g c s, (zo_inc 12 (1) (zo_goto 119 (pz_Z X 13))) 217 lv st g c s → pz_Z X 13 217 lv st g c s := (zs_iinc hX dX10_choose_217 (by decide) (by decide) (zs_goto hX dX10_choose_220 (by decide) (fun _ _ _ _ _ _ h => h)))
set_option maxRecDepth 20000 in
theorem bX10_choose_223 {X : pz_C} (hX : pz_X X cX10_choose 13 RX10) : ∀ lv st g c s, (zo_inc 10 (1) (zo_goto 53 (pz_Z X 13))) 223 lv st g c s → pz_Z X 13 223 lv st g c s := (zs_iinc hX dX10_choose_223 (by decide) (by decide) (zs_goto hX dX10_choose_226 (by decide) (fun _ _ _ _ _ _ h => h)))
set_option maxRecDepth 20000 in
theorem bX10_choose_229 {X : pz_C} (hX : pz_X X cX10_choose 13 RX10) : ∀ lv st g c s, (zo_ll 2 7 (zo_lc 1 (1) (zo_ladd (zo_lst 2 7 (zo_goto 24 (pz_Z X 13)))))) 229 lv st g c s → pz_Z X 13 229 lv st g c s := (zs_lload hX dX10_choose_229 (zs_lconst hX dX10_choose_231 (by decide) (zs_ladd hX dX10_choose_232 (zs_lstore hX dX10_choose_233 (by decide) (zs_goto hX dX10_choose_235 (by decide) (fun _ _ _ _ _ _ h => h))))))
set_option maxRecDepth 20000 in
theorem bX10_choose_238 {X : pz_C} (hX : pz_X X cX10_choose 13 RX10) : ∀ lv st g c s, (zo_inc 6 (1) (zo_goto 3 (pz_Z X 13))) 238 lv st g c s → pz_Z X 13 238 lv st g c s := (zs_iinc hX dX10_choose_238 (by decide) (by decide) (zs_goto hX dX10_choose_241 (by decide) (fun _ _ _ _ _ _ h => h)))
set_option maxRecDepth 20000 in
theorem bX10_choose_244 {X : pz_C} {rm : Room} {E : Option pz_V → pz_H → Prop} (hX : pz_X X cX10_choose 13 RX10) (hR : pz_Rt X cX10_choose 13 none rm E) : ∀ lv st g c s, (zo_rv rm E) 244 lv st g c s → pz_Z X 13 244 lv st g c s := (zs_rv hR dX10_choose_244)
def rm_X10_choose : Room := { frames := 3, cells := 0, slots := 0, locals := 78 }
abbrev gt_X10_choose : Type := (Nat × Nat × Nat × Nat) × (Nat × Nat × Nat × Nat × (Nat → Nat)) × mo_T
def pr_X10_choose : gt_X10_choose → List pz_V → pz_H → Prop := fun ((lb, to, from', T), (nl, ne, nz, nw, cn), (mo, M, I, Ai, Aj)) av g => av = [.inr (.inr (some mo)), .inl (nI (lb + 1)), .inl (nI to), .inl (nI from'), .inr (.inl (lN T))] ∧ lb < 6 ∧ to < 100 ∧ from' < 100 ∧ T ≤ 1700000000 ∧ moW I Ai nl ne nz nw cn ∧ moS g mo M I Ai Aj
def mc_w (Ai : Nat → Nat → Int32) (Aj : Nat → Nat → Int64) (lb T : Nat) : Option (Nat × Nat × Nat × Nat) → (Nat → Nat → Int32) → (Nat → Nat → Int64) → Prop
  | none, Ai', Aj' => Ai' = Ai ∧ Aj' 24 = Aj 24
  | some (l, r, j, i), Ai', Aj' => Ai' 23 = upd (Ai 23) lb (nI l) ∧ Aj' 24 = vp_updL (Aj 24) lb (dy T r) ∧ Ai' 25 = upd (Ai 25) lb (nI i) ∧ Ai' 26 = upd (Ai 26) lb (nI j)
def po_X10_choose : gt_X10_choose → List pz_V → pz_H → Option pz_V → pz_H → Prop := fun ((lb, to, from', T), (nl, ne, nz, nw, cn), (mo, M, I, Ai, Aj)) _ g v g' => v = none ∧ hg moL g g' ∧ ∃ Ai' Aj', moS g' mo M I Ai' Aj' ∧ agI [23, 25, 26] Ai Ai' ∧ agJ [24, 29, 30] Aj Aj' ∧ mc_w Ai Aj lb T (mc_n Ai Aj ne nz nw cn lb from' T to 0 nl) Ai' Aj'
set_option maxRecDepth 20000 in
set_option maxHeartbeats 4000000 in
theorem ct_X10_choose {G : pz_Gx} (hOk : pz_OK G) (gh : gt_X10_choose) : pz_M G yX10_choose cX10_choose 13 none rm_X10_choose (pr_X10_choose gh) (po_X10_choose gh) := by
  obtain ⟨⟨lb, to, from', T⟩, ⟨nl, ne, nz, nw, cn⟩, mo, M, I, Ai, Aj⟩ := gh
  refine pz_ofZ (by decide) hOk.1 (Or.inl rfl) ?_ ?_
  · rintro av g ⟨rfl, -⟩
    exact Nat.le_of_ble_eq_true rfl
  · rintro X hX hGX hrm - av g ⟨rfl, hlb, hto, hfr, hT, ⟨⟨hnl, hnl40⟩, ⟨hne, hne100, h01⟩, ⟨hnz, hnz100⟩, ⟨hnw, hnw100⟩, hcn⟩, hm⟩ hR
    have hn1 : nI (lb + 1) - 1 = nI lb := ni_pred (n := lb + 1) (by omega)
    have hlbi : vp_in (nI lb) 6 := ni_in (by omega) (by omega)
    have hlbc : (nI lb).toNatClampNeg = lb := ni_cl (by omega)
    -- found
    have fin : ∀ (l r j i : Nat) (gk : pz_H) (A : Nat → Nat → Int64), hg moL g gk → moS gk mo M I Ai A → agJ [29, 30] Aj A → mc_n Ai Aj ne nz nw cn lb from' T to 0 nl = some (l, r, j, i) → pz_Z X 13 176 [(12, .inl (nI i)), (10, .inl (nI j)), (7, .inr (.inl (dy T r))), (6, .inl (nI l)), (0, .inr (.inr (some mo))), (1, .inl (nI (lb + 1))), (2, .inl (nI to)), (3, .inl (nI from')), (4, .inr (.inl (lN T)))] [] gk 0 0 := by
      intro l r j i gk A hS hmk hag hres
      obtain ⟨hm1, hS1⟩ := mo_i hmk 23 (by decide) (upd (Ai 23) lb (nI l))
      obtain ⟨hm2, hS2⟩ := mo_j hm1 24 (by decide) (vp_updL (A 24) lb (dy T r))
      obtain ⟨hm3, hS3⟩ := mo_i hm2 25 (by decide) (upd (Ai 25) lb (nI i))
      obtain ⟨hm4, hS4⟩ := mo_i hm3 26 (by decide) (upd (Ai 26) lb (nI j))
      refine bX10_choose_176 hX hR _ _ _ _ _ ⟨_, _, _, hmk.1, rfl, _, _, _, hmk.2.1 23 (by decide), by rw [hn1]; exact hlbi, ?_⟩
      rw [hn1, hlbc]
      refine ⟨_, _, _, hm1.1, rfl, _, _, _, hm1.2.2.2 24 (by decide), by rw [hn1]; exact hlbi, ?_⟩
      rw [hn1, hlbc]
      refine ⟨_, _, _, hm2.1, rfl, _, _, _, hm2.2.1 25 (by decide), by rw [hn1]; exact hlbi, ?_⟩
      rw [hn1, hlbc]
      refine ⟨_, _, _, hm3.1, rfl, _, _, _, hm3.2.1 26 (by decide), by rw [hn1]; exact hlbi, ?_⟩
      rw [hn1, hlbc]
      refine ⟨Nat.le_refl _, Nat.le_refl _, rfl, hg_tr hS (hg_tr hS1 (hg_tr hS2 (hg_tr hS3 hS4))), _, _, hm4, agI_sq (agI_sq (agI_sq agI_rf (by decide)) (by decide)) (by decide), agJ_sq (agJ_mono hag (by decide)) (by decide), ?_⟩
      rw [hres]
      refine ⟨rfl, ?_, rfl, rfl⟩
      rw [seqJ_at, hag 24 (by decide)]
    -- i
    have loopI : ∀ (l r j : Nat) (Fi Fo : Nat → Int64) (gk : pz_H) (A : Nat → Nat → Int64), l < nl → j < cn l → hg moL g gk → moS gk mo M I Ai A → agJ [29, 30] Aj A → (∀ k, k < cn l → A 29 k = Fi k ∧ A 30 k = Fo k) → ∀ (m i : Nat), i + m = j → (∀ i', fs_s (mc_p Ai Aj lb from' T l Fi Fo j) i m = some i' → mc_n Ai Aj ne nz nw cn lb from' T to 0 nl = some (l, r, j, i')) → (fs_s (mc_p Ai Aj lb from' T l Fi Fo j) i m = none → pz_Z X 13 223 [(10, .inl (nI j)), (9, .inl 1), (7, .inr (.inl (dy T r))), (6, .inl (nI l)), (0, .inr (.inr (some mo))), (1, .inl (nI (lb + 1))), (2, .inl (nI to)), (3, .inl (nI from')), (4, .inr (.inl (lN T)))] [] gk 0 0) → pz_Z X 13 119 [(12, .inl (nI i)), (11, .inl 1), (10, .inl (nI j)), (9, .inl 1), (7, .inr (.inl (dy T r))), (6, .inl (nI l)), (0, .inr (.inr (some mo))), (1, .inl (nI (lb + 1))), (2, .inl (nI to)), (3, .inl (nI from')), (4, .inr (.inl (lN T)))] [] gk 0 0 := by
      intro l r j Fi Fo gk A hl hj hS hmk hag hf m
      obtain ⟨hc3, hc12, hcp⟩ := hcn l hl
      induction m with
      | zero =>
        intro i hi hres kont
        refine bX10_choose_119 hX _ _ _ _ _ ⟨fun _ => ?_, fun q => absurd ((ni_le (by omega) (by omega)).mpr (by omega)) q⟩
        exact pz_lsub (by exact ⟨rfl, rfl, rfl, rfl, rfl, rfl, rfl, rfl, rfl, trivial⟩) (kont rfl)
      | succ m ih =>
        intro i hi hres kont
        have h4 : gk (M 4) = some ([101, 4], ar_i 480 (Ai 4)) := hmk.2.1 4 (by decide)
        have h30 : gk (M 30) = some ([101, 30], ar_j 12 (A 30)) := hmk.2.2.2 30 (by decide)
        obtain ⟨p, hp, hP⟩ := hcp i (by omega)
        have hic : (nI i).toNatClampNeg = i := ni_cl (by omega)
        have hii : vp_in (nI i) 12 := ni_in (by omega) (by omega)
        have nx : mc_p Ai Aj lb from' T l Fi Fo j i = false → ∀ lv : pz_L, pz_all lv [(12, .inl (nI i)), (11, .inl 1), (10, .inl (nI j)), (9, .inl 1), (7, .inr (.inl (dy T r))), (6, .inl (nI l)), (0, .inr (.inr (some mo))), (1, .inl (nI (lb + 1))), (2, .inl (nI to)), (3, .inl (nI from')), (4, .inr (.inl (lN T)))] → pz_Z X 13 217 lv [] gk 0 0 := by
          intro hp lv hlv
          have e : fs_s (mc_p Ai Aj lb from' T l Fi Fo j) i (m + 1) = fs_s (mc_p Ai Aj lb from' T l Fi Fo j) (i + 1) m := by
            show (if _ then _ else _) = _
            rw [hp, if_neg (by decide)]
          rw [e] at hres kont
          refine pz_lsub hlv ?_
          refine bX10_choose_217 hX _ _ _ _ _ ?_
          refine pz_lsub (lv' := [(12, .inl (nI (i + 1))), (11, .inl 1), (10, .inl (nI j)), (9, .inl 1), (7, .inr (.inl (dy T r))), (6, .inl (nI l)), (0, .inr (.inr (some mo))), (1, .inl (nI (lb + 1))), (2, .inl (nI to)), (3, .inl (nI from')), (4, .inr (.inl (lN T)))]) ⟨ni_inc, rfl, rfl, rfl, rfl, rfl, rfl, rfl, rfl, rfl, rfl, trivial⟩ ?_
          exact ih (i + 1) (by omega) hres kont
        refine bX10_choose_119 hX _ _ _ _ _ ⟨fun q => absurd ((ni_le (by omega) (by omega)).mp q) (by omega), fun _ => ?_⟩
        refine bX10_choose_126 hX _ _ _ _ _ ⟨fun q => absurd q (by decide), fun _ => ?_⟩
        refine bX10_choose_131 hX _ _ _ _ _ ?_
        refine bX10_choose_136 hX hrm hGX hOk ((i, j), (mo, M, I, Ai, A)) (by decide) _ _ _ _ _ ⟨Nat.le_of_ble_eq_true rfl, ⟨mo, [.inl (nI i), .inl (nI j)], [100], _, rfl, hmk.1⟩, Nat.le_of_ble_eq_true rfl, Nat.le_of_ble_eq_true rfl, Nat.le_of_ble_eq_true rfl, ⟨rfl, by omega, by omega, hmk⟩, ?_⟩
        rintro v g2 ⟨rfl, rfl⟩ y hy -
        cases hy
        refine ⟨fun q => ?_, fun q => ?_⟩
        · rw [b01_z, (hf i (by omega)).2, (hf j hj).1] at q
          exact nx (by unfold mc_p; rw [q]; rfl) _ ⟨rfl, rfl, rfl, rfl, rfl, rfl, rfl, rfl, rfl, rfl, rfl, trivial⟩
        · rw [b01_nz, (hf i (by omega)).2, (hf j hj).1] at q
          refine bX10_choose_142 hX _ _ _ _ _ ⟨_, _, _, hmk.1, rfl, _, _, _, h30, hii, _, _, _, hmk.1, rfl, _, _, _, h4, by rw [ix_12]; exact ni_in (by omega) (by omega), ?_⟩
          rw [ix_12, ni_cl (j := 12 * l + i) (by omega), hP, hic, (hf i (by omega)).2]
          rw [hn1]
          refine bX10_choose_169 hX hrm hGX hOk ((lb, p, from', lN T), (mo, M, I, Ai, A)) (by decide) _ _ _ _ _ ⟨Nat.le_of_ble_eq_true rfl, ⟨mo, [.inl (nI lb), .inl (nI p), .inl (nI from'), .inr (.inl (lN T))], [100], _, rfl, hmk.1⟩, Nat.le_of_ble_eq_true rfl, Nat.le_of_ble_eq_true rfl, Nat.le_of_ble_eq_true rfl, ⟨rfl, by omega, hp, hfr, hmk⟩, ?_⟩
          rintro v g2 ⟨rfl, rfl⟩ y hy
          cases hy
          have hmq : mq_r Ai A lb p from' (lN T) = mqe (Ai 20) (Aj 21) lb (Ai 4 (12 * l + i)).toNatClampNeg from' (lN T) := by
            rw [hP, ni_cl (j := p) (by omega), ← hag 21 (by decide)]; rfl
          rw [hmq]
          refine ⟨fun q2 => ?_, fun q2 => ?_⟩
          · exact nx (by unfold mc_p; rw [decide_eq_false (Int64.not_le.mpr ((lc_lt _ _).mp q2)), Bool.and_false]) _ ⟨rfl, rfl, rfl, rfl, rfl, rfl, rfl, rfl, rfl, rfl, rfl, trivial⟩
          · have hpt : mc_p Ai Aj lb from' T l Fi Fo j i = true := by
              unfold mc_p
              rw [q, decide_eq_true (Int64.not_lt.mp (fun z => q2 ((lc_lt _ _).mpr z)))]
              rfl
            refine pz_lsub (by exact ⟨rfl, rfl, rfl, rfl, rfl, rfl, rfl, rfl, rfl, trivial⟩) (fin l r j i g2 A hS hmk hag (hres i ?_))
            show (if _ then _ else _) = _
            rw [hpt, if_pos rfl]
    -- j
    have loopJ : ∀ (l r : Nat) (Fi Fo : Nat → Int64) (gk : pz_H) (A : Nat → Nat → Int64), l < nl → hg moL g gk → moS gk mo M I Ai A → agJ [29, 30] Aj A → (∀ k, k < cn l → A 29 k = Fi k ∧ A 30 k = Fo k) → ∀ (m j : Nat), (j + m = cn l ∨ (cn l ≤ j ∧ m = 0)) → j ≤ 13 → (∀ j' i', fs_s (mc_q Ai Aj lb from' T to l Fi Fo) j m = some j' → fs_s (mc_p Ai Aj lb from' T l Fi Fo j') 0 j' = some i' → mc_n Ai Aj ne nz nw cn lb from' T to 0 nl = some (l, r, j', i')) → (fs_s (mc_q Ai Aj lb from' T to l Fi Fo) j m = none → pz_Z X 13 229 [(7, .inr (.inl (dy T r))), (6, .inl (nI l)), (0, .inr (.inr (some mo))), (1, .inl (nI (lb + 1))), (2, .inl (nI to)), (3, .inl (nI from')), (4, .inr (.inl (lN T)))] [] gk 0 0) → pz_Z X 13 53 [(10, .inl (nI j)), (9, .inl 1), (7, .inr (.inl (dy T r))), (6, .inl (nI l)), (0, .inr (.inr (some mo))), (1, .inl (nI (lb + 1))), (2, .inl (nI to)), (3, .inl (nI from')), (4, .inr (.inl (lN T)))] [] gk 0 0 := by
      intro l r Fi Fo gk A hl hS hmk hag hf m
      obtain ⟨hc3, hc12, hcp⟩ := hcn l hl
      have hli : vp_in (nI l) 40 := ni_in (by omega) (by omega)
      have hlc : (nI l).toNatClampNeg = l := ni_cl (by omega)
      have h3 : gk (M 3) = some ([101, 3], ar_i 40 (Ai 3)) := hmk.2.1 3 (by decide)
      induction m with
      | zero =>
        intro j hj hj13 hres kont
        refine bX10_choose_53 hX _ _ _ _ _ ⟨_, _, _, hmk.1, rfl, _, _, _, h3, hli, ?_⟩
        rw [hlc, hc3]
        refine ⟨fun _ => ?_, fun q => absurd ((ni_le (by omega) (by omega)).mpr (by omega)) q⟩
        exact pz_lsub (by exact ⟨rfl, rfl, rfl, rfl, rfl, rfl, rfl, trivial⟩) (kont rfl)
      | succ m ih =>
        intro j hj hj13 hres kont
        have hjl : j < cn l := by omega
        have h4 : gk (M 4) = some ([101, 4], ar_i 480 (Ai 4)) := hmk.2.1 4 (by decide)
        have h21 : gk (M 21) = some ([101, 21], ar_j 700 (A 21)) := hmk.2.2.2 21 (by decide)
        have h29 : gk (M 29) = some ([101, 29], ar_j 12 (A 29)) := hmk.2.2.2 29 (by decide)
        have hjc : (nI j).toNatClampNeg = j := ni_cl (by omega)
        have hji : vp_in (nI j) 12 := ni_in (by omega) (by omega)
        have nx : mc_q Ai Aj lb from' T to l Fi Fo j = false → ∀ lv : pz_L, pz_all lv [(10, .inl (nI j)), (9, .inl 1), (7, .inr (.inl (dy T r))), (6, .inl (nI l)), (0, .inr (.inr (some mo))), (1, .inl (nI (lb + 1))), (2, .inl (nI to)), (3, .inl (nI from')), (4, .inr (.inl (lN T)))] → pz_Z X 13 223 lv [] gk 0 0 := by
          intro hp lv hlv
          have e : fs_s (mc_q Ai Aj lb from' T to l Fi Fo) j (m + 1) = fs_s (mc_q Ai Aj lb from' T to l Fi Fo) (j + 1) m := by
            show (if _ then _ else _) = _
            rw [hp, if_neg (by decide)]
          rw [e] at hres kont
          refine pz_lsub hlv ?_
          refine bX10_choose_223 hX _ _ _ _ _ ?_
          refine pz_lsub (lv' := [(10, .inl (nI (j + 1))), (9, .inl 1), (7, .inr (.inl (dy T r))), (6, .inl (nI l)), (0, .inr (.inr (some mo))), (1, .inl (nI (lb + 1))), (2, .inl (nI to)), (3, .inl (nI from')), (4, .inr (.inl (lN T)))]) ⟨ni_inc, rfl, rfl, rfl, rfl, rfl, rfl, rfl, rfl, trivial⟩ ?_
          exact ih (j + 1) (by omega) (by omega) hres kont
        have noEnd : mc_q Ai Aj lb from' T to l Fi Fo j = false → pz_Z X 13 113 [(10, .inl (nI j)), (9, .inl 1), (7, .inr (.inl (dy T r))), (6, .inl (nI l)), (0, .inr (.inr (some mo))), (1, .inl (nI (lb + 1))), (2, .inl (nI to)), (3, .inl (nI from')), (4, .inr (.inl (lN T)))] [] gk 0 0 := by
          intro hp
          refine bX10_choose_113 hX _ _ _ _ _ ?_
          refine bX10_choose_114 hX _ _ _ _ _ ?_
          refine bX10_choose_119 hX _ _ _ _ _ ⟨fun _ => nx hp _ ⟨rfl, rfl, rfl, rfl, rfl, rfl, rfl, rfl, rfl, trivial⟩, fun _ => ?_⟩
          refine bX10_choose_126 hX _ _ _ _ _ ⟨fun _ => nx hp _ ⟨rfl, rfl, rfl, rfl, rfl, rfl, rfl, rfl, rfl, trivial⟩, fun q => absurd rfl q⟩
        refine bX10_choose_53 hX _ _ _ _ _ ⟨_, _, _, hmk.1, rfl, _, _, _, h3, hli, ?_⟩
        rw [hlc, hc3]
        refine ⟨fun q => absurd ((ni_le (by omega) (by omega)).mp q) (by omega), fun _ => ?_⟩
        refine bX10_choose_65 hX _ _ _ _ _ ⟨fun q => absurd q (by decide), fun _ => ?_⟩
        refine bX10_choose_70 hX _ _ _ _ _ ⟨_, _, _, hmk.1, rfl, _, _, _, h4, by rw [ix_12]; exact ni_in (by omega) (by omega), ?_⟩
        rw [ix_12, ni_cl (j := 12 * l + j) (by omega)]
        refine ⟨fun q => ?_, fun q => ?_⟩
        · exact noEnd (by unfold mc_q; rw [decide_eq_false q]; rfl)
        · refine bX10_choose_87 hX _ _ _ _ _ ⟨_, _, _, hmk.1, rfl, _, _, _, h29, hji, _, _, _, hmk.1, rfl, _, _, _, h21, by rw [ix_100]; exact ni_in (by omega) (by omega), ?_⟩
          rw [ix_100, ni_cl (j := 100 * (lb + 1) + to) (by omega), hjc, (hf j hjl).1, hag 21 (by decide)]
          refine ⟨fun q2 => ?_, fun q2 => ?_⟩
          · exact noEnd (by unfold mc_q; rw [decide_eq_false (fun z => q2 ((lc_eq _ _).mpr z)), Bool.false_and, Bool.and_false])
          · refine bX10_choose_109 hX _ _ _ _ _ ?_
            refine bX10_choose_114 hX _ _ _ _ _ ?_
            refine pz_lsub (lv' := [(12, .inl (nI 0)), (11, .inl 1), (10, .inl (nI j)), (9, .inl 1), (7, .inr (.inl (dy T r))), (6, .inl (nI l)), (0, .inr (.inr (some mo))), (1, .inl (nI (lb + 1))), (2, .inl (nI to)), (3, .inl (nI from')), (4, .inr (.inl (lN T)))]) ⟨rfl, rfl, rfl, rfl, rfl, rfl, rfl, rfl, rfl, rfl, rfl, trivial⟩ ?_
            have he2 : Fi j = Aj 21 (100 * (lb + 1) + to) := (lc_eq _ _).mp q2
            have hqq : mc_q Ai Aj lb from' T to l Fi Fo j = (fs_s (mc_p Ai Aj lb from' T l Fi Fo j) 0 j).isSome := by
              unfold mc_q
              rw [decide_eq_true q, decide_eq_true he2, Bool.true_and, Bool.true_and]
            refine loopI l r j Fi Fo gk A hl hjl hS hmk hag hf j 0 (by omega) (fun i' hi' => hres j i' ?_ hi') (fun hno => ?_)
            · show (if _ then _ else _) = _
              rw [hqq, hi']
              rfl
            · exact nx (by rw [hqq, hno]; rfl) _ ⟨rfl, rfl, rfl, rfl, rfl, rfl, rfl, rfl, rfl, trivial⟩
    -- days
    have loopD : ∀ (l : Nat), l < nl → ∀ (m r : Nat) (gk : pz_H) (A : Nat → Nat → Int64), r + m = 13 → hg moL g gk → moS gk mo M I Ai A → agJ [29, 30] Aj A → (∀ q, mc_r Ai Aj ne nz nw cn lb from' T to l r m = some q → mc_n Ai Aj ne nz nw cn lb from' T to 0 nl = some (l, q)) → (mc_r Ai Aj ne nz nw cn lb from' T to l r m = none → ∀ (g2 : pz_H) (A2 : Nat → Nat → Int64), hg moL g g2 → moS g2 mo M I Ai A2 → agJ [29, 30] Aj A2 → pz_Z X 13 238 [(6, .inl (nI l)), (0, .inr (.inr (some mo))), (1, .inl (nI (lb + 1))), (2, .inl (nI to)), (3, .inl (nI from')), (4, .inr (.inl (lN T)))] [] g2 0 0) → pz_Z X 13 24 [(7, .inr (.inl (dy T r))), (6, .inl (nI l)), (0, .inr (.inr (some mo))), (1, .inl (nI (lb + 1))), (2, .inl (nI to)), (3, .inl (nI from')), (4, .inr (.inl (lN T)))] [] gk 0 0 := by
      intro l hl m
      obtain ⟨hc3, hc12, hcp⟩ := hcn l hl
      have hli : vp_in (nI l) 40 := ni_in (by omega) (by omega)
      have hlc : (nI l).toNatClampNeg = l := ni_cl (by omega)
      induction m with
      | zero =>
        intro r gk A hr hS hmk hag hres kont
        obtain rfl : r = 13 := by omega
        refine bX10_choose_24 hX _ _ _ _ _ ⟨by decide, fun _ => ?_, fun q => absurd ((dy_gt hT (Nat.le_refl _)).mpr (Nat.le_refl _)) q⟩
        exact pz_lsub (by exact ⟨rfl, rfl, rfl, rfl, rfl, rfl, trivial⟩) (kont rfl gk A hS hmk hag)
      | succ m ih =>
        intro r gk A hr hS hmk hag hres kont
        refine bX10_choose_24 hX _ _ _ _ _ ⟨by decide, fun q => absurd ((dy_gt hT (by omega)).mp q) (by omega), fun _ => ?_⟩
        refine bX10_choose_40 hX _ _ _ _ _ ?_
        refine bX10_choose_45 hX hrm hGX hOk ((l, dy T r), (ne, nz, nw, cn l), (mo, M, I, Ai, A)) (by decide) _ _ _ _ _ ⟨Nat.le_of_ble_eq_true rfl, ⟨mo, [.inl (nI l), .inr (.inl (dy T r))], [100], _, rfl, hmk.1⟩, Nat.le_of_ble_eq_true rfl, Nat.le_of_ble_eq_true rfl, Nat.le_of_ble_eq_true rfl, ⟨rfl, by omega, hne, hne100, h01, hnz, hnz100, hnw, hnw100, hc3, hc12, hmk⟩, ?_⟩
        rintro v g2 ⟨rfl, hS2, fi, fo, hm2, hft⟩ y hy hy01
        cases hy
        rw [mr_ag hag (by decide)] at hft hy01 ⊢
        have hag2 : agJ [29, 30] Aj (seqJ (seqJ A 29 fi) 30 fo) := agJ_sq (agJ_sq hag (by decide)) (by decide)
        have nx : mc_d Ai Aj ne nz nw cn lb from' T to l r = none → ∀ lv : pz_L, pz_all lv [(7, .inr (.inl (dy T r))), (6, .inl (nI l)), (0, .inr (.inr (some mo))), (1, .inl (nI (lb + 1))), (2, .inl (nI to)), (3, .inl (nI from')), (4, .inr (.inl (lN T)))] → pz_Z X 13 229 lv [] g2 0 0 := by
          intro hd lv hlv
          have e : mc_r Ai Aj ne nz nw cn lb from' T to l r (m + 1) = mc_r Ai Aj ne nz nw cn lb from' T to l (r + 1) m := by
            show (match mc_d Ai Aj ne nz nw cn lb from' T to l r with | some q => some (r, q) | none => mc_r Ai Aj ne nz nw cn lb from' T to l (r + 1) m) = _
            rw [hd]
          rw [e] at hres kont
          refine pz_lsub hlv ?_
          refine bX10_choose_229 hX _ _ _ _ _ ?_
          refine pz_lsub (lv' := [(7, .inr (.inl (dy T (r + 1)))), (6, .inl (nI l)), (0, .inr (.inr (some mo))), (1, .inl (nI (lb + 1))), (2, .inl (nI to)), (3, .inl (nI from')), (4, .inr (.inl (lN T)))]) ⟨dy_inc, rfl, rfl, rfl, rfl, rfl, rfl, trivial⟩ ?_
          exact ih (r + 1) g2 _ (by omega) (hg_tr hS hS2) hm2 hag2 hres kont
        rcases hy01 with hz | hz
        · rw [hz]
          have h3 : g2 (M 3) = some ([101, 3], ar_i 40 (Ai 3)) := hm2.2.1 3 (by decide)
          have hd : mc_d Ai Aj ne nz nw cn lb from' T to l r = none := by
            unfold mc_d
            rw [hz, if_neg (by decide)]
          refine bX10_choose_53 hX _ _ _ _ _ ⟨_, _, _, hm2.1, rfl, _, _, _, h3, hli, ?_⟩
          refine ⟨fun _ => nx hd _ ⟨rfl, rfl, rfl, rfl, rfl, rfl, rfl, trivial⟩, fun _ => ?_⟩
          refine bX10_choose_65 hX _ _ _ _ _ ⟨fun _ => nx hd _ ⟨rfl, rfl, rfl, rfl, rfl, rfl, rfl, trivial⟩, fun q2 => absurd rfl q2⟩
        · rw [hz]
          have hd : mc_d Ai Aj ne nz nw cn lb from' T to l r = match fs_s (mc_q Ai Aj lb from' T to l (fun k => mt_t Ai Aj nz nw l (dy T r) k false) (fun k => mt_t Ai Aj nz nw l (dy T r) k true)) 1 (cn l - 1) with
              | none => none
              | some j => match fs_s (mc_p Ai Aj lb from' T l (fun k => mt_t Ai Aj nz nw l (dy T r) k false) (fun k => mt_t Ai Aj nz nw l (dy T r) k true) j) 0 j with
                | none => none
                | some i => some (j, i) := by
            unfold mc_d
            rw [hz, if_pos rfl]
          refine pz_lsub (lv' := [(10, .inl (nI 1)), (9, .inl 1), (7, .inr (.inl (dy T r))), (6, .inl (nI l)), (0, .inr (.inr (some mo))), (1, .inl (nI (lb + 1))), (2, .inl (nI to)), (3, .inl (nI from')), (4, .inr (.inl (lN T)))]) ⟨rfl, rfl, rfl, rfl, rfl, rfl, rfl, rfl, rfl, trivial⟩ ?_
          refine loopJ l r (fun k => mt_t Ai Aj nz nw l (dy T r) k false) (fun k => mt_t Ai Aj nz nw l (dy T r) k true) g2 _ hl (hg_tr hS hS2) hm2 hag2 (fun k hk => ?_) (cn l - 1) 1 (by omega) (by omega) (fun j' i' hj' hi' => ?_) (fun hno => ?_)
          · have := hft hz k hk
            rw [mt_ag hag (by decide), mt_ag hag (by decide)] at this
            exact this
          · refine hres (r, j', i') ?_
            show (match mc_d Ai Aj ne nz nw cn lb from' T to l r with | some q => some (r, q) | none => mc_r Ai Aj ne nz nw cn lb from' T to l (r + 1) m) = _
            rw [hd, hj']
            dsimp only
            rw [hi']
          · exact nx (by rw [hd, hno]) _ ⟨rfl, rfl, rfl, rfl, rfl, rfl, rfl, trivial⟩
    -- lines
    have loopL : ∀ (m l : Nat) (gk : pz_H) (A : Nat → Nat → Int64), l + m = nl → hg moL g gk → moS gk mo M I Ai A → agJ [29, 30] Aj A → mc_n Ai Aj ne nz nw cn lb from' T to 0 nl = mc_n Ai Aj ne nz nw cn lb from' T to l m → pz_Z X 13 3 [(6, .inl (nI l)), (0, .inr (.inr (some mo))), (1, .inl (nI (lb + 1))), (2, .inl (nI to)), (3, .inl (nI from')), (4, .inr (.inl (lN T)))] [] gk 0 0 := by
      intro m
      induction m with
      | zero =>
        intro l gk A hl hS hmk hag hE
        obtain rfl : l = nl := by omega
        refine bX10_choose_3 hX _ _ _ _ _ ⟨_, _, _, hmk.1, rfl, fun _ => ?_, fun q => absurd (by rw [hnl]; exact Int32.le_refl _) q⟩
        refine bX10_choose_244 hX hR _ _ _ _ _ ⟨Nat.le_refl _, Nat.le_refl _, rfl, hS, Ai, A, hmk, agI_rf, agJ_mono hag (by decide), ?_⟩
        rw [hE]
        exact ⟨rfl, hag 24 (by decide)⟩
      | succ m ih =>
        intro l gk A hl hS hmk hag hE
        refine bX10_choose_3 hX _ _ _ _ _ ⟨_, _, _, hmk.1, rfl, fun q => absurd ((ni_le (by omega) (by omega)).mp (hnl ▸ q)) (by omega), fun _ => ?_⟩
        refine bX10_choose_12 hX _ _ _ _ _ ⟨by decide, ?_⟩
        refine pz_lsub (lv' := [(7, .inr (.inl (dy T 0))), (6, .inl (nI l)), (0, .inr (.inr (some mo))), (1, .inl (nI (lb + 1))), (2, .inl (nI to)), (3, .inl (nI from')), (4, .inr (.inl (lN T)))]) ⟨dy_ini, rfl, rfl, rfl, rfl, rfl, rfl, trivial⟩ ?_
        have e : mc_n Ai Aj ne nz nw cn lb from' T to l (m + 1) = match mc_r Ai Aj ne nz nw cn lb from' T to l 0 13 with | some q => some (l, q) | none => mc_n Ai Aj ne nz nw cn lb from' T to (l + 1) m := rfl
        refine loopD l (by omega) 13 0 gk A (by omega) hS hmk hag (fun q hq => by rw [hE, e, hq]) (fun hno g2 A2 a1 a2 a3 => ?_)
        refine bX10_choose_238 hX _ _ _ _ _ ?_
        refine pz_lsub (lv' := [(6, .inl (nI (l + 1))), (0, .inr (.inr (some mo))), (1, .inl (nI (lb + 1))), (2, .inl (nI to)), (3, .inl (nI from')), (4, .inr (.inl (lN T)))]) ⟨ni_inc, rfl, rfl, rfl, rfl, rfl, trivial⟩ ?_
        exact ih (l + 1) g2 A2 (by omega) a1 a2 a3 (by rw [hE, e, hno])
    refine bX10_choose_0 hX _ _ _ _ _ ?_
    refine pz_lsub (lv' := [(6, .inl (nI 0)), (0, .inr (.inr (some mo))), (1, .inl (nI (lb + 1))), (2, .inl (nI to)), (3, .inl (nI from')), (4, .inr (.inl (lN T)))]) ⟨rfl, rfl, rfl, rfl, rfl, rfl, trivial⟩ ?_
    exact loopL nl 0 g Aj (by omega) hg_rf hm agJ_rf rfl
