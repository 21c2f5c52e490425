/-! the law's state -/
theorem wi_bdR {v a b : Int64} : (!wi v a b) = true ↔ bdR v a b := by
  unfold wi bdR
  rw [Bool.not_eq_true', Bool.and_eq_false_iff, decide_eq_false_iff_not, decide_eq_false_iff_not, Int64.not_le, Int64.not_le]
theorem wi_n {v a b : Int64} : (!wi v a b) = false ↔ ¬ bdR v a b := by
  rw [← wi_bdR]
  cases (!wi v a b) <;> simp
theorem i64_le {x : Int32} {y : Int32} : x.toInt64 ≤ y.toInt64 ↔ x ≤ y := by
  rw [i6_le, i3_le, Int32.toInt_toInt64, Int32.toInt_toInt64]
theorem wi_bdI {i : Int32} {n : Nat} (hn : n ≤ 1000) : (!wi i.toInt64 0 (nI n - 1).toInt64) = true ↔ bdI i (nI n) := by
  have e1 : (nI n - 1).toInt = (n : Int) - 1 := by
    rw [i3_sub (by rw [nI_toInt (by omega), show (1 : Int32).toInt = 1 from rfl]; omega) (by rw [nI_toInt (by omega), show (1 : Int32).toInt = 1 from rfl]; omega), nI_toInt (by omega)]
    rfl
  rw [wi_bdR]
  unfold bdR bdI
  rw [i6_lt, i6_lt, i3_lt, i3_le, Int32.toInt_toInt64, Int32.toInt_toInt64, e1, nI_toInt (by omega), show (0 : Int64).toInt = 0 from rfl, show (0 : Int32).toInt = 0 from rfl]
  omega
theorem wi_bd99 {i : Int32} : (!wi i.toInt64 0 99) = true ↔ bdI i 100 := wi_bdI (n := 100) (by omega)
/-- all but the reference's cells -/
def clX : List Nat → Prop := fun b => b ≠ [100] ∧ ∀ k, b ≠ [101, k]
theorem hg_clX {S : List Nat → Prop} {g g' : pz_H} (h : hg S g g') (h1 : ¬ S [100]) (h2 : ∀ k, ¬ S [101, k]) : hg clX g g' := hg_mono h (fun b hb => ⟨fun e => h1 (e ▸ hb), fun k e => h2 k (e ▸ hb)⟩)
theorem moS_clX {g g' : pz_H} (hh : hg clX g g') {mo : Nat} {M : Nat → Nat} {I : Nat → Int32} {Ai : Nat → Nat → Int32} {Aj : Nat → Nat → Int64} (h : moS g mo M I Ai Aj) : moS g' mo M I Ai Aj := by
  obtain ⟨a1, a2, a3, a4⟩ := h
  have n0 : ¬ clX [100] := fun e => e.1 rfl
  have n1 : ∀ k, ¬ clX [101, k] := fun k e => e.2 k rfl
  exact ⟨hh _ _ _ a1 n0, fun k hk => hh _ _ _ (a2 k hk) (n1 k), hh _ _ _ a3 (n1 _), fun k hk => hh _ _ _ (a4 k hk) (n1 k)⟩
abbrev cs_T : Type := Nat × (Nat × Nat × Nat × Nat) × (Nat × Nat × Nat) × (Nat × Nat × Nat × Nat × Int32 × (Nat → Nat)) × (Nat × (Nat → lr_T) × Nat) × ((Nat → Nat) × (Nat → List (Int32 × Int32)) × (Nat → Int32) × (Nat → Int32)) × (Nat × Nat × (Nat → Nat) × (Nat → Nat → Int32)) × (Nat × Nat × Nat × (Nat → Int32)) × ((Nat × Nat × Nat × Nat) × (Int32 × Int32) × (Nat → Int32) × (Nat → Nat))
def clS (sa : Nat) (g : pz_H) : cs_T → Prop := fun (h, (nt, wy, lv, tx), (ne, nz, nw), (la, pa, na, so, fd, Wa), (nl, L, U), (fp, Z, N, C), (lg, K, Pa, pf), (ti, lc, lw, lf), ((cm, sg, len, at'), (fa, ro), cf, hl)) => ltS g h nt wy lv tx ne nz nw ∧ ntS g nt la pa na so fd Wa ∧ nlE g la sa nl L U ∧ plS g pa fp Z N C ∧ neS g Wa so ∧ wyS g wy lg (nI K) Pa pf ∧ lvS g lv ti lc lw lf ∧ txS g tx cm sg len at' fa ro cf ∧ lsE g cm [7] [8] sa 0 hl
theorem wyS_m {g g' : pz_H} {S : List Nat → Prop} (hh : hg S g g') {wy lg : Nat} {cnt : Int32} {Pa : Nat → Nat} {pf : Nat → Nat → Int32} (hS : ¬ S [2] ∧ ¬ S [13] ∧ ∀ i, ¬ S [14, i]) (h : wyS g wy lg cnt Pa pf) : wyS g' wy lg cnt Pa pf := by
  obtain ⟨w1, ⟨o, w2, w3⟩, w4⟩ := h
  exact ⟨hh _ _ _ w1 hS.1, ⟨o, hh _ _ _ w2 hS.2.1, w3⟩, fun i hi => hh _ _ _ (w4 i hi) (hS.2.2 i)⟩
theorem lvS_m {g g' : pz_H} {S : List Nat → Prop} (hh : hg S g g') {lv ti c w : Nat} {f : Nat → Int32} (hS : ¬ S [3] ∧ ¬ S [15]) (h : lvS g lv ti c w f) : lvS g' lv ti c w f := ⟨hh _ _ _ h.1 hS.1, hh _ _ _ h.2 hS.2⟩
/-- what the reference and the law write leaves the class's cells -/
def mdX : List Nat → Prop := fun b => b = [17] ∨ b = [100] ∨ ∃ k, b = [101, k]
theorem clS_mdX {g g' : pz_H} (hh : hg mdX g g') {sa : Nat} {cs : cs_T} (h : clS sa g cs) : clS sa g' cs := by
  obtain ⟨h, ⟨nt, wy, lv, tx⟩, ⟨ne, nz, nw⟩, ⟨la, pa, na, so, fd, Wa⟩, ⟨nl, L, U⟩, ⟨fp, Z, N, C⟩, ⟨lg, K, Pa, pf⟩, ⟨ti, lc, lw, lf⟩, ⟨⟨cm, sg, len, at'⟩, ⟨fa, ro⟩, cf, hl⟩⟩ := cs
  obtain ⟨a1, a2, a3, a4, a5, a6, a7, a8, a9⟩ := h
  refine ⟨hh _ _ _ a1 (by simp [mdX]), ntS_mono hh (by simp [mdX]) a2, ?_, plS_mono hh (by simp [mdX]) a4, neS_mono hh (by simp [mdX]) a5, wyS_m hh (by simp [mdX]) a6, lvS_m hh (by simp [mdX]) a7, txS_mono hh (by simp [mdX]) a8, lsE_mono hh (by simp [mdX]) a9⟩
  exact nlE_w hh (by simp [mdX]) (by simp [mdX]) (fun i hi => by
    obtain ⟨-, ⟨rn, A, B, w⟩, -⟩ := a3.2.2.1 i hi
    exact ⟨rn, A, B, lrT_mono hh _ (by simp [mdX]) w⟩) a3
/-- the coupling -/
def lwC (ne nz nw nl : Nat) (L : Nat → lr_T) (Z : Nat → List (Int32 × Int32)) (N C : Nat → Int32) (K : Nat) (pf : Nat → Nat → Int32) (len : Nat) (cf : Nat → Int32) (I : Nat → Int32) (Ai : Nat → Nat → Int32) (Aj : Nat → Nat → Int64) (cn : Nat → Nat) : Prop :=
  moW I Ai nl ne nz nw cn ∧ cpD L nl Z C Ai Aj ne nz nw cn ∧ cpU Ai Aj nl ne nz nw ∧ (I 22 = nI K ∧ K ≤ 6 ∧ cpW Ai Aj K pf) ∧ (I 27 = nI len ∧ len ≤ 500 ∧ cf = Ai 28) ∧ (∀ p, p < 100 → N p = nI (mz_c (Ai 12) (nI p) nz)) ∧ ∀ i, i < nl → dwO (L i).2.2.2.2.1
def lwK (cs : cs_T) (I : Nat → Int32) (Ai : Nat → Nat → Int32) (Aj : Nat → Nat → Int64) (cn : Nat → Nat) : Prop := match cs with
  | (_, _, (ne, nz, nw), _, (nl, L, _), (_, Z, N, C), (_, K, _, pf), _, ((_, _, len, _), _, cf, _)) => lwC ne nz nw nl L Z N C K pf len cf I Ai Aj cn
def lwI (sa : Nat) (g : pz_H) (h mo out : Nat) (M : Nat → Nat) (len : Nat) : Prop := ∃ (cs : cs_T) (I : Nat → Int32) (Ai : Nat → Nat → Int32) (Aj : Nat → Nat → Int64) (cn : Nat → Nat) (f : Nat → Int64), cs.1 = h ∧ cs.2.2.2.2.2.2.2.2.1.2.2.1 = len ∧ clS sa g cs ∧ moS g mo M I Ai Aj ∧ lwK cs I Ai Aj cn ∧ g out = some ([17], ou_c f)
/-- what one call of the script leaves -/
def lwR (sa : Nat) (g : pz_H) (h mo out : Nat) (M : Nat → Nat) (len : Nat) (r : Int32) (b : Int64) : Prop := ∃ (I : Nat → Int32) (f : Nat → Int64), g mo = some ([100], .inr (12, mo_fs I M)) ∧ I 0 = r ∧ g out = some ([17], ou_c f) ∧ (r = 0 → f 0 = b) ∧ lwI sa g h mo out M len
