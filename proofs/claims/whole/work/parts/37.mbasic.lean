/-! THE MODEL'S STATE, told purely; its simplest calls -/
/-- a slope: A, B, C, D -/
abbrev SL4 : Type := Int × Int × Int × Int
/-- a row: kind, number of its slope or -1, size, steps -/
abbrev RW4 : Type := Int × Int × Nat × (Nat → Int)
/-- a sheet: sort, size, cells -/
abbrev SH3 : Type := Int × Int × (Nat → Int)
/-- a state: slopes, rows, sheets, status, trace -/
abbrev ST5 : Type := List SL4 × List RW4 × (Nat → SH3) × Int × List Int
/-- a row as it may be -/
def RV (sl : List SL4) (r : RW4) : Prop := 0 ≤ r.1 ∧ r.1 ≤ 4 ∧ -1 ≤ r.2.1 ∧ r.2.1 < sl.length ∧ r.2.2.1 ≤ 10001 ∧ (∀ i, i < r.2.2.1 → 0 ≤ r.2.2.2 i ∧ r.2.2.2 i ≤ 100)
  ∧ (r.1 = 4 → r.2.2.1 = 10001 ∧ 0 ≤ r.2.1) ∧ (r.1 = 1 → 0 ≤ r.2.1) ∧ (r.1 ≠ 1 → r.1 ≠ 4 → r.2.1 = -1)
/-- a sheet as it may be -/
def SV (s : SH3) : Prop := -1 ≤ s.1 ∧ s.1 ≤ 2 ∧ 0 ≤ s.2.1 ∧ s.2.1 ≤ 40 ∧ (s.1 = -1 → s.2.1 = 0) ∧ (∀ i, i < 40 → -100 ≤ s.2.2 i ∧ s.2.2 i ≤ 100)
/-- a state as it may be -/
def OK5 (S : ST5) : Prop := S.1.length ≤ 8 ∧ S.2.1.length ≤ 10 ∧ (∀ q ∈ S.1, SL q.1 q.2.1 q.2.2.1 q.2.2.2) ∧ (∀ r ∈ S.2.1, RV S.1 r) ∧ (∀ k, k < 4 → SV (S.2.2.1 k)) ∧ 0 ≤ S.2.2.2.1 ∧ S.2.2.2.1 ≤ 15 ∧ S.2.2.2.2.length ≤ 50
/-- the model holds a state -/
def MV (S : ST5) (MI : Nat → Int32) (MA : Nat → Nat → Int32) : Prop :=
  MI 0 = iO (S.1.length : Nat) ∧ MI 1 = iO (S.2.1.length : Nat) ∧ MI 2 = iO S.2.2.2.1 ∧ MI 3 = iO (S.2.2.2.2.length : Nat)
  ∧ (∀ (s : Nat) (q : SL4), S.1[s]? = some q → MS MA s q.1 q.2.1 q.2.2.1 q.2.2.2)
  ∧ (∀ (r : Nat) (q : RW4), S.2.1[r]? = some q → MA 4 r = iO q.1 ∧ MA 5 r = iO (q.2.2.1 : Nat) ∧ MA 6 r = iO q.2.1 ∧ ∀ i, i < q.2.2.1 → MA 7 (10001 * r + i) = iO (q.2.2.2 i))
  ∧ (∀ k, k < 4 → MA 8 k = iO (S.2.2.1 k).1 ∧ MA 9 k = iO (S.2.2.1 k).2.1 ∧ ∀ i, i < 40 → MA 10 (40 * k + i) = iO ((S.2.2.1 k).2.2 i))
  ∧ (∀ (i : Nat) (x : Int), S.2.2.2.2[i]? = some x → MA 11 i = iO x)
section MB
variable {sc : en_S} {n : Nat} {XI : Nat → Int32} {XA : Nat → Nat → Int32} {XP : Nat → Nat → Option Nat} {XC : Value} {MI : Nat → Int32} {MA : Nat → Nat → Int32} {ML : Nat → Nat → Int64} {D0 : en_H}
theorem e_in {a b c : Int} {z : en_H} (ha : i32 a) (hb : i32 b) (hc : i32 c) : f_X12_in sc (n + 1) (iO a) (iO b) (iO c) z = some (some (.int (iO (if b ≤ a ∧ a ≤ c then 1 else 0))), z) := by
  rw [e_X12_in]
  by_cases h1 : a < b
  · rw [if_pos ((iO_lt ha hb).mpr h1), if_neg (by omega)]; rfl
  · rw [if_neg (fun q => h1 ((iO_lt ha hb).mp q))]
    by_cases h2 : c < a
    · rw [if_pos ((iO_lt hc ha).mpr h2), if_neg (by omega)]; rfl
    · rw [if_neg (fun q => h2 ((iO_lt hc ha).mp q)), if_pos (by omega)]; rfl
theorem bl_if {P : Prop} [Decidable P] : (iO (if P then 1 else 0) &&& iO 1 = iO (if P then 1 else 0)) := by split <;> rfl
theorem e_misSlope {S : ST5} (hV : MV S MI MA) (hS : OK5 S) {s : Int} (hs : i32 s) : f_X12_isSlope sc (n + 2) 26 (iO s) (hp XI XA XP XC MI MA ML D0) = some (some (.int (iO (if 0 ≤ s ∧ s < S.1.length then 1 else 0))), hp XI XA XP XC MI MA ML D0) := by
  have h8 := hS.1
  rw [e_X12_isSlope, hp_g_26_0, hV.1, ki_0, ki_1, iO_sub, e_in hs (by unfold i32; omega) (by unfold i32; omega)]
  simp only [en_bI]
  rw [if_pos bl_if]
  congr 4
  simp only [Int.le_sub_one_iff]
theorem e_misRow {S : ST5} (hV : MV S MI MA) (hS : OK5 S) {s : Int} (hs : i32 s) : f_X12_isRow sc (n + 2) 26 (iO s) (hp XI XA XP XC MI MA ML D0) = some (some (.int (iO (if 0 ≤ s ∧ s < S.2.1.length then 1 else 0))), hp XI XA XP XC MI MA ML D0) := by
  have h8 := hS.2.1
  rw [e_X12_isRow, hp_g_26_1, hV.2.1, ki_0, ki_1, iO_sub, e_in hs (by unfold i32; omega) (by unfold i32; omega)]
  simp only [en_bI]
  rw [if_pos bl_if]
  congr 4
  simp only [Int.le_sub_one_iff]
theorem e_mcount {S : ST5} (hV : MV S MI MA) {w : Int} (hw : i32 w) : f_X12_count sc (n + 1) 26 (iO w) (hp XI XA XP XC MI MA ML D0) = some (some (.int (iO (if w = 0 then (S.1.length : Int) else if w = 1 then (S.2.1.length : Int) else if w = 2 then (S.2.2.2.2.length : Int) else -1))), hp XI XA XP XC MI MA ML D0) := by
  obtain ⟨h0, h1, h2, h3, -⟩ := hV
  have c0 := iO_eq (b := 0) hw (by unfold i32; omega)
  have c1 := iO_eq (b := 1) hw (by unfold i32; omega)
  have c2 := iO_eq (b := 2) hw (by unfold i32; omega)
  rw [e_X12_count]
  simp only [ki_0, ki_1, ki_2, ki_3, ki_4, ki_5, ki_6, ki_7, ki_8, ki_9, ki_10, ki_11, ki_12, ki_13, ki_14, ki_15, ki_20, ki_21, ki_30, ki_31, ki_40, ki_41, ki_50, ki_51, ki_60, ki_63, ki_64, ki_65, ki_100, ki_158, ki_160, ki_200, ki_212, ki_1000, ki_2000, ki_2001, ki_5000, ki_10000, ki_10001, ki_100000, ki_200000, ki_1000000, ki_2000000, ki_3000000, iO_neg, iO_add, iO_sub, iO_mul, kn_4, kn_8, kn_10, kn_20, kn_24, kn_40, kn_41, kn_50, kn_60, kn_158, kn_160, kn_200, kn_212, kn_2001, hp_g_26_0, hp_g_26_1, hp_g_26_15, h0, h1, h3, c0, c1, c2]
  repeat' split
  all_goals rfl
theorem e_mstatus {S : ST5} (hV : MV S MI MA) : f_X12_status sc (n + 1) 26 (hp XI XA XP XC MI MA ML D0) = some (some (.int (iO S.2.2.2.1)), hp XI XA XP XC MI MA ML D0) := by
  obtain ⟨h0, h1, h2, h3, -⟩ := hV
  rw [e_X12_status, hp_g_26_2, h2]
theorem e_mwholeC {S : ST5} (hV : MV S MI MA) (hS : OK5 S) {s N : Int} (hs : i32 s) (hN : i32 N) : f_X12_whole sc (n + 4) 26 (iO s) (iO N) (hp XI XA XP XC MI MA ML D0) = some (some (.int (iO (if 0 ≤ s ∧ s < S.1.length then (if 0 ≤ N ∧ N ≤ 100000 then (match S.1[s.toNat]? with | some q => whl (q.1 * N) (q.2.1 * N) q.2.2.2 q.2.2.1 | none => -1) else -1) else -1))), hp XI XA XP XC MI MA ML D0) := by
  obtain ⟨hs1, hs2⟩ := id hs
  obtain ⟨hN1, hN2⟩ := id hN
  have h8 := hS.1
  rw [e_X12_whole]
  rw [hp_cc_26, if_pos rfl, e_misSlope hV hS hs]
  by_cases g : 0 ≤ s ∧ s < S.1.length
  · simp only [if_pos g]
    obtain ⟨k, rfl⟩ : ∃ k : Nat, s = k := ⟨s.toNat, by omega⟩
    have hk : k < S.1.length := by omega
    obtain ⟨q, hq⟩ : ∃ q, S.1[k]? = some q := ⟨_, List.getElem?_eq_getElem hk⟩
    have hM := hV.2.2.2.2.1 k q hq
    have hSL := hS.2.2.1 q (List.mem_of_getElem? hq)
    simp (disch := (first | assumption | (unfold i32; omega) | (unfold i64; omega) | omega)) only [ki_0, ki_1, ki_2, ki_3, ki_4, ki_5, ki_6, ki_7, ki_8, ki_9, ki_10, ki_11, ki_12, ki_13, ki_14, ki_15, ki_20, ki_21, ki_30, ki_31, ki_40, ki_41, ki_50, ki_51, ki_60, ki_63, ki_64, ki_65, ki_100, ki_158, ki_160, ki_200, ki_212, ki_1000, ki_2000, ki_2001, ki_5000, ki_10000, ki_10001, ki_100000, ki_200000, ki_1000000, ki_2000000, ki_3000000, iO_neg, iO_add, iO_sub, iO_mul, kn_4, kn_8, kn_10, kn_20, kn_24, kn_40, kn_41, kn_50, kn_60, kn_158, kn_160, kn_200, kn_212, kn_2001, tn_lt, fn_lt, tn_le, fn_le, tn_eq, fn_eq, x_lt, x_le, x_eq, x_ix, x_nat, t_lt, f_lt, t_le, f_le, t_eq, f_eq, eq_self, and_self, true_and, and_true, false_and, and_false, if_true, if_false, Int.toNat_natCast, bI_s, bL_s, bA_s, bA_n, bV_s, mq_s, mq_n, en_le, bl_0, bl_1, u_eq, u_ne, w_eq, w_ne, v_eq, v_ne, e_in, hp_cc_26]
    by_cases g2 : 0 ≤ N ∧ N ≤ 100000
    · simp (disch := (first | assumption | (unfold i32; omega) | (unfold i64; omega) | omega)) only [ki_0, ki_1, ki_2, ki_3, ki_4, ki_5, ki_6, ki_7, ki_8, ki_9, ki_10, ki_11, ki_12, ki_13, ki_14, ki_15, ki_20, ki_21, ki_30, ki_31, ki_40, ki_41, ki_50, ki_51, ki_60, ki_63, ki_64, ki_65, ki_100, ki_158, ki_160, ki_200, ki_212, ki_1000, ki_2000, ki_2001, ki_5000, ki_10000, ki_10001, ki_100000, ki_200000, ki_1000000, ki_2000000, ki_3000000, iO_neg, iO_add, iO_sub, iO_mul, kn_4, kn_8, kn_10, kn_20, kn_24, kn_40, kn_41, kn_50, kn_60, kn_158, kn_160, kn_200, kn_212, kn_2001, tn_lt, fn_lt, tn_le, fn_le, tn_eq, fn_eq, x_lt, x_le, x_eq, x_ix, x_nat, t_lt, f_lt, t_le, f_le, t_eq, f_eq, eq_self, and_self, true_and, and_true, false_and, and_false, if_true, if_false, Int.toNat_natCast, bI_s, bL_s, bA_s, bA_n, bV_s, mq_s, mq_n, en_le, bl_0, bl_1, u_eq, u_ne, w_eq, w_ne, v_eq, v_ne, if_pos g2, e_mwhole (by omega) hM hSL g2.1 g2.2, hq]
    · simp (disch := (first | assumption | (unfold i32; omega) | (unfold i64; omega) | omega)) only [ki_0, ki_1, ki_2, ki_3, ki_4, ki_5, ki_6, ki_7, ki_8, ki_9, ki_10, ki_11, ki_12, ki_13, ki_14, ki_15, ki_20, ki_21, ki_30, ki_31, ki_40, ki_41, ki_50, ki_51, ki_60, ki_63, ki_64, ki_65, ki_100, ki_158, ki_160, ki_200, ki_212, ki_1000, ki_2000, ki_2001, ki_5000, ki_10000, ki_10001, ki_100000, ki_200000, ki_1000000, ki_2000000, ki_3000000, iO_neg, iO_add, iO_sub, iO_mul, kn_4, kn_8, kn_10, kn_20, kn_24, kn_40, kn_41, kn_50, kn_60, kn_158, kn_160, kn_200, kn_212, kn_2001, tn_lt, fn_lt, tn_le, fn_le, tn_eq, fn_eq, x_lt, x_le, x_eq, x_ix, x_nat, t_lt, f_lt, t_le, f_le, t_eq, f_eq, eq_self, and_self, true_and, and_true, false_and, and_false, if_true, if_false, Int.toNat_natCast, bI_s, bL_s, bA_s, bA_n, bV_s, mq_s, mq_n, en_le, bl_0, bl_1, u_eq, u_ne, w_eq, w_ne, v_eq, v_ne, if_neg g2]
  · simp only [if_neg g]
    rfl
end MB
