/-! WHAT EACH CALL of the law is -/
section YCS
variable {R L : Nat} {x1 x2 x3 x4 x5 : Int32} {z : Int64}
theorem c_feed : yCall 960 mH_feed mM_feed [.int x1, .int x2, .int x3, .int x4, .int x5] R L (fun _ _ => True) := by
  rintro q0 q1 _ tc tm ⟨p, n, m, ps, c, a, b, ow, en, lo, cn, ht, fo, v, h⟩
  obtain ⟨rc, rm, tc', tm', e1, e2, o⟩ := a_feed (d := 0) (q0 := q0) (q1 := q1) h
  exact ⟨rc, rm, tc', tm', xRn_up (by omega) e1, xRn_up (by omega) e2, o⟩
theorem c_program : yCall 960 mH_program mM_program [.int x1] R L (fun _ q1 => q1 = 1) := by
  rintro q0 q1 rfl tc tm ⟨p, n, m, ps, c, a, b, ow, en, lo, cn, ht, fo, v, h⟩
  obtain ⟨rc, rm, tc', tm', e1, e2, o⟩ := a_program (d := 0) (q0 := q0) h
  exact ⟨rc, rm, tc', tm', xRn_up (by omega) e1, xRn_up (by omega) e2, o⟩
theorem c_fault : yCall 960 mH_fault mM_fault [] R L (fun _ _ => True) := by
  rintro q0 q1 _ tc tm ⟨p, n, m, ps, c, a, b, ow, en, lo, cn, ht, fo, v, h⟩
  obtain ⟨rc, rm, tc', tm', e1, e2, o⟩ := a_fault (d := 0) (q0 := q0) (q1 := q1) h
  exact ⟨rc, rm, tc', tm', xRn_up (by omega) e1, xRn_up (by omega) e2, o⟩
theorem c_give : yCall 960 mH_give mM_give [.int x1, .int x2, .long z] R L (fun _ q1 => q1 = 1) := by
  rintro q0 q1 rfl tc tm ⟨p, n, m, ps, c, a, b, ow, en, lo, cn, ht, fo, v, h⟩
  obtain ⟨rc, rm, tc', tm', e1, e2, o⟩ := a_give (d := 0) (q0 := q0) h
  exact ⟨rc, rm, tc', tm', xRn_up (by omega) e1, xRn_up (by omega) e2, o⟩
theorem c_run (hL : L + 210000 < 2147483648) (hR : R + 30 < 2147483648) : yCall 960 mH_run mM_run [.int x1] R L (fun q0 _ => q0 = 1) := by
  rintro q0 q1 rfl tc tm ⟨p, n, m, ps, c, a, b, ow, en, lo, cn, ht, fo, v, h⟩
  obtain ⟨rc, rm, tc', tm', e1, e2, o⟩ := a_run (d := 0) (q1 := q1) h hL hR
  exact ⟨rc, rm, tc', tm', xRn_up (by omega) e1, xRn_up (by omega) e2, o⟩
theorem c_runs (hL : L + 210000 < 2147483648) (hR : R + 30 < 2147483648) : yCall 960 mH_runs mM_runs [.int x1, .int x2] R L (fun q0 q1 => q0 = 1 ∧ q1 = 2) := by
  rintro q0 q1 ⟨rfl, rfl⟩ tc tm ⟨p, n, m, ps, c, a, b, ow, en, lo, cn, ht, fo, v, h⟩
  obtain ⟨rc, rm, tc', tm', e1, e2, o⟩ := a_runs (d := 0)  h hL hR
  exact ⟨rc, rm, tc', tm', xRn_up (by omega) e1, xRn_up (by omega) e2, o⟩
theorem c_glow : yCall 960 mH_glow mM_glow [.int x1] R L (fun _ q1 => q1 = 1) := by
  rintro q0 q1 rfl tc tm ⟨p, n, m, ps, c, a, b, ow, en, lo, cn, ht, fo, v, h⟩
  obtain ⟨rc, rm, tc', tm', e1, e2, o⟩ := a_glow (d := 0) (q0 := q0) h
  exact ⟨rc, rm, tc', tm', xRn_up (by omega) e1, xRn_up (by omega) e2, o⟩
theorem c_patience : yCall 960 mH_patience mM_patience [.int x1] R L (fun _ q1 => q1 = 1) := by
  rintro q0 q1 rfl tc tm ⟨p, n, m, ps, c, a, b, ow, en, lo, cn, ht, fo, v, h⟩
  obtain ⟨rc, rm, tc', tm', e1, e2, o⟩ := a_patience (d := 0) (q0 := q0) h
  exact ⟨rc, rm, tc', tm', xRn_up (by omega) e1, xRn_up (by omega) e2, o⟩
theorem c_cool : yCall 960 mH_cool mM_cool [.int x1] R L (fun q0 _ => q0 = 1) := by
  rintro q0 q1 rfl tc tm ⟨p, n, m, ps, c, a, b, ow, en, lo, cn, ht, fo, v, h⟩
  obtain ⟨rc, rm, tc', tm', e1, e2, o⟩ := a_cool (d := 0) (q1 := q1) h
  exact ⟨rc, rm, tc', tm', xRn_up (by omega) e1, xRn_up (by omega) e2, o⟩
theorem c_forget : yCall 960 mH_forget mM_forget [.int x1] R L (fun q0 _ => q0 = 1) := by
  rintro q0 q1 rfl tc tm ⟨p, n, m, ps, c, a, b, ow, en, lo, cn, ht, fo, v, h⟩
  obtain ⟨rc, rm, tc', tm', e1, e2, o⟩ := a_forget (d := 0) (q1 := q1) h
  exact ⟨rc, rm, tc', tm', xRn_up (by omega) e1, xRn_up (by omega) e2, o⟩
theorem c_clear : yCall 960 mH_clear mM_clear [] R L (fun _ _ => True) := by
  rintro q0 q1 _ tc tm ⟨p, n, m, ps, c, a, b, ow, en, lo, cn, ht, fo, v, h⟩
  obtain ⟨rc, rm, tc', tm', e1, e2, o⟩ := a_clear (d := 0) (q0 := q0) (q1 := q1) h
  exact ⟨rc, rm, tc', tm', xRn_up (by omega) e1, xRn_up (by omega) e2, o⟩
theorem c_told : yCall 960 mH_told mM_told [.int x1] R L (fun _ q1 => q1 = 1) := by
  rintro q0 q1 rfl tc tm ⟨p, n, m, ps, c, a, b, ow, en, lo, cn, ht, fo, v, h⟩
  obtain ⟨rc, rm, tc', tm', e1, e2, o⟩ := a_told (d := 0) (q0 := q0) h
  exact ⟨rc, rm, tc', tm', xRn_up (by omega) e1, xRn_up (by omega) e2, o⟩
theorem c_latest : yCall 960 mH_latest mM_latest [.int x1] R L (fun _ q1 => q1 = 1) := by
  rintro q0 q1 rfl tc tm ⟨p, n, m, ps, c, a, b, ow, en, lo, cn, ht, fo, v, h⟩
  obtain ⟨rc, rm, tc', tm', e1, e2, o⟩ := a_latest (d := 0) (q0 := q0) h
  exact ⟨rc, rm, tc', tm', xRn_up (by omega) e1, xRn_up (by omega) e2, o⟩
theorem c_value : yCall 960 mH_value mM_value [] R L (fun _ _ => True) := by
  rintro q0 q1 _ tc tm ⟨p, n, m, ps, c, a, b, ow, en, lo, cn, ht, fo, v, h⟩
  obtain ⟨rc, rm, tc', tm', e1, e2, o⟩ := a_value (d := 0) (q0 := q0) (q1 := q1) h
  exact ⟨rc, rm, tc', tm', xRn_up (by omega) e1, xRn_up (by omega) e2, o⟩
theorem c_cost : yCall 960 mH_cost mM_cost [] R L (fun _ _ => True) := by
  rintro q0 q1 _ tc tm ⟨p, n, m, ps, c, a, b, ow, en, lo, cn, ht, fo, v, h⟩
  obtain ⟨rc, rm, tc', tm', e1, e2, o⟩ := a_cost (d := 0) (q0 := q0) (q1 := q1) h
  exact ⟨rc, rm, tc', tm', xRn_up (by omega) e1, xRn_up (by omega) e2, o⟩
theorem c_costs : yCall 960 mH_costs mM_costs [] R L (fun _ _ => True) := by
  rintro q0 q1 _ tc tm ⟨p, n, m, ps, c, a, b, ow, en, lo, cn, ht, fo, v, h⟩
  obtain ⟨rc, rm, tc', tm', e1, e2, o⟩ := a_costs (d := 0) (q0 := q0) (q1 := q1) h
  exact ⟨rc, rm, tc', tm', xRn_up (by omega) e1, xRn_up (by omega) e2, o⟩
theorem c_given : yCall 960 mH_given mM_given [.int x1, .int x2] R L (fun _ q1 => q1 = 1) := by
  rintro q0 q1 rfl tc tm ⟨p, n, m, ps, c, a, b, ow, en, lo, cn, ht, fo, v, h⟩
  obtain ⟨rc, rm, tc', tm', e1, e2, o⟩ := a_given (d := 0) (q0 := q0) h
  exact ⟨rc, rm, tc', tm', xRn_up (by omega) e1, xRn_up (by omega) e2, o⟩
theorem c_function : yCall 960 mH_function mM_function [.int x1, .int x2] R L (fun q0 q1 => q0 = 1 ∧ q1 = 2) := by
  rintro q0 q1 ⟨rfl, rfl⟩ tc tm ⟨p, n, m, ps, c, a, b, ow, en, lo, cn, ht, fo, v, h⟩
  obtain ⟨rc, rm, tc', tm', e1, e2, o⟩ := a_function (d := 0)  h
  exact ⟨rc, rm, tc', tm', xRn_up (by omega) e1, xRn_up (by omega) e2, o⟩
theorem c_place : yCall 960 mH_place mM_place [.int x1, .int x2] R L (fun q0 q1 => q0 = 1 ∧ q1 = 2) := by
  rintro q0 q1 ⟨rfl, rfl⟩ tc tm ⟨p, n, m, ps, c, a, b, ow, en, lo, cn, ht, fo, v, h⟩
  obtain ⟨rc, rm, tc', tm', e1, e2, o⟩ := a_place (d := 0)  h
  exact ⟨rc, rm, tc', tm', xRn_up (by omega) e1, xRn_up (by omega) e2, o⟩
theorem c_notes : yCall 960 mH_notes mM_notes0 [] R L (fun _ _ => True) := by
  rintro q0 q1 _ tc tm ⟨p, n, m, ps, c, a, b, ow, en, lo, cn, ht, fo, v, h⟩
  obtain ⟨rc, rm, tc', tm', e1, e2, o⟩ := a_notes (d := 0) (q0 := q0) (q1 := q1) h
  exact ⟨rc, rm, tc', tm', xRn_up (by omega) e1, xRn_up (by omega) e2, o⟩
theorem c_note : yCall 960 mH_note mM_note [.int x1, .int x2] R L (fun q0 q1 => q0 = 1 ∧ q1 = 2) := by
  rintro q0 q1 ⟨rfl, rfl⟩ tc tm ⟨p, n, m, ps, c, a, b, ow, en, lo, cn, ht, fo, v, h⟩
  obtain ⟨rc, rm, tc', tm', e1, e2, o⟩ := a_note (d := 0)  h
  exact ⟨rc, rm, tc', tm', xRn_up (by omega) e1, xRn_up (by omega) e2, o⟩
theorem c_kind : yCall 960 mH_kind mM_kind [.int x1, .int x2] R L (fun q0 q1 => q0 = 1 ∧ q1 = 2) := by
  rintro q0 q1 ⟨rfl, rfl⟩ tc tm ⟨p, n, m, ps, c, a, b, ow, en, lo, cn, ht, fo, v, h⟩
  obtain ⟨rc, rm, tc', tm', e1, e2, o⟩ := a_kind (d := 0)  h
  exact ⟨rc, rm, tc', tm', xRn_up (by omega) e1, xRn_up (by omega) e2, o⟩
theorem c_number : yCall 960 mH_number mM_number2 [.int x1, .int x2] R L (fun q0 q1 => q0 = 1 ∧ q1 = 2) := by
  rintro q0 q1 ⟨rfl, rfl⟩ tc tm ⟨p, n, m, ps, c, a, b, ow, en, lo, cn, ht, fo, v, h⟩
  obtain ⟨rc, rm, tc', tm', e1, e2, o⟩ := a_number (d := 0)  h
  exact ⟨rc, rm, tc', tm', xRn_up (by omega) e1, xRn_up (by omega) e2, o⟩
theorem c_plain : yCall 960 mH_plain mM_plain [.int x1, .int x2] R L (fun q0 q1 => q0 = 1 ∧ q1 = 2) := by
  rintro q0 q1 ⟨rfl, rfl⟩ tc tm ⟨p, n, m, ps, c, a, b, ow, en, lo, cn, ht, fo, v, h⟩
  obtain ⟨rc, rm, tc', tm', e1, e2, o⟩ := a_plain (d := 0)  h
  exact ⟨rc, rm, tc', tm', xRn_up (by omega) e1, xRn_up (by omega) e2, o⟩
theorem c_plainly : yCall 960 mH_plainly mM_plainly [.int x1] R L (fun q0 _ => q0 = 1) := by
  rintro q0 q1 rfl tc tm ⟨p, n, m, ps, c, a, b, ow, en, lo, cn, ht, fo, v, h⟩
  obtain ⟨rc, rm, tc', tm', e1, e2, o⟩ := a_plainly (d := 0) (q1 := q1) h
  exact ⟨rc, rm, tc', tm', xRn_up (by omega) e1, xRn_up (by omega) e2, o⟩
theorem c_often : yCall 960 mH_often mM_often [.int x1, .int x2] R L (fun q0 _ => q0 = 1) := by
  rintro q0 q1 rfl tc tm ⟨p, n, m, ps, c, a, b, ow, en, lo, cn, ht, fo, v, h⟩
  obtain ⟨rc, rm, tc', tm', e1, e2, o⟩ := a_often (d := 0) (q1 := q1) h
  exact ⟨rc, rm, tc', tm', xRn_up (by omega) e1, xRn_up (by omega) e2, o⟩
theorem c_pairs : yCall 960 mH_pairs mM_pairs [.int x1, .int x2] R L (fun q0 _ => q0 = 1) := by
  rintro q0 q1 rfl tc tm ⟨p, n, m, ps, c, a, b, ow, en, lo, cn, ht, fo, v, h⟩
  obtain ⟨rc, rm, tc', tm', e1, e2, o⟩ := a_pairs (d := 0) (q1 := q1) h
  exact ⟨rc, rm, tc', tm', xRn_up (by omega) e1, xRn_up (by omega) e2, o⟩
theorem c_ahead (hL : L + 210000 < 2147483648) : yCall 960 mH_ahead mM_ahead [.int x1, .int x2, .int x3] R L (fun q0 q1 => q0 = 1 ∧ q1 = 2) := by
  rintro q0 q1 ⟨rfl, rfl⟩ tc tm ⟨p, n, m, ps, c, a, b, ow, en, lo, cn, ht, fo, v, h⟩
  obtain ⟨rc, rm, tc', tm', e1, e2, o⟩ := a_ahead (d := 0)  h hL
  exact ⟨rc, rm, tc', tm', xRn_up (by omega) e1, xRn_up (by omega) e2, o⟩
theorem c_pays : yCall 960 mH_pays mM_pays1 [.int x1] R L (fun q0 _ => q0 = 1) := by
  rintro q0 q1 rfl tc tm ⟨p, n, m, ps, c, a, b, ow, en, lo, cn, ht, fo, v, h⟩
  obtain ⟨rc, rm, tc', tm', e1, e2, o⟩ := a_pays (d := 0) (q1 := q1) h
  exact ⟨rc, rm, tc', tm', xRn_up (by omega) e1, xRn_up (by omega) e2, o⟩
theorem c_tune : yCall 960 mH_tune mM_tune [.int x1, .int x2, .int x3] R L (fun q0 q1 => q0 = 1 ∧ q1 = 2) := by
  rintro q0 q1 ⟨rfl, rfl⟩ tc tm ⟨p, n, m, ps, c, a, b, ow, en, lo, cn, ht, fo, v, h⟩
  obtain ⟨rc, rm, tc', tm', e1, e2, o⟩ := a_tune (d := 0)  h
  exact ⟨rc, rm, tc', tm', xRn_up (by omega) e1, xRn_up (by omega) e2, o⟩
theorem c_bear : yCall 960 mH_bear mM_bear [.int x1, .int x2, .int x3] R L (fun q0 q1 => q0 = 1 ∧ q1 = 2) := by
  rintro q0 q1 ⟨rfl, rfl⟩ tc tm ⟨p, n, m, ps, c, a, b, ow, en, lo, cn, ht, fo, v, h⟩
  obtain ⟨rc, rm, tc', tm', e1, e2, o⟩ := a_bear (d := 0)  h
  exact ⟨rc, rm, tc', tm', xRn_up (by omega) e1, xRn_up (by omega) e2, o⟩
theorem c_sorest (hL : L + 210000 < 2147483648) : yCall 960 mH_sorest mM_sorest [.int x1, .int x2, .int x3] R L (fun q0 q1 => q0 = 1 ∧ q1 = 2) := by
  rintro q0 q1 ⟨rfl, rfl⟩ tc tm ⟨p, n, m, ps, c, a, b, ow, en, lo, cn, ht, fo, v, h⟩
  obtain ⟨rc, rm, tc', tm', e1, e2, o⟩ := a_sorest (d := 0)  h hL
  exact ⟨rc, rm, tc', tm', xRn_up (by omega) e1, xRn_up (by omega) e2, o⟩
theorem c_until (hL : L + 210000 < 2147483648) : yCall 960 mH_until mM_until [.int x1] R L (fun q0 _ => q0 = 1) := by
  rintro q0 q1 rfl tc tm ⟨p, n, m, ps, c, a, b, ow, en, lo, cn, ht, fo, v, h⟩
  obtain ⟨rc, rm, tc', tm', e1, e2, o⟩ := a_until (d := 0) (q1 := q1) h hL
  exact ⟨rc, rm, tc', tm', xRn_up (by omega) e1, xRn_up (by omega) e2, o⟩
theorem c_status : yCall 960 mH_status mM_status [.int x1] R L (fun _ _ => True) := by
  rintro q0 q1 _ tc tm ⟨p, n, m, ps, c, a, b, ow, en, lo, cn, ht, fo, v, h⟩
  obtain ⟨rc, rm, tc', tm', e1, e2, o⟩ := a_status (d := 0) (q0 := q0) (q1 := q1) h
  exact ⟨rc, rm, tc', tm', xRn_up (by omega) e1, xRn_up (by omega) e2, o⟩
end YCS
