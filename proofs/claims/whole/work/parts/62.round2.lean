/-! round: a world where nobody sneezes, behind k rounds -/
theorem rk_zero {er : Int → Int} {tw : Int} (h : ∀ t, 0 ≤ t → t < tw → er (4 * t) ≠ 9) : ∀ n : Nat, (n : Int) ≤ tw → rk er n = 0
  | 0, _ => rfl
  | n + 1, hn => by
    show rk er n + _ = 0
    rw [rk_zero h n (by omega), if_neg (h n (by omega) (by omega))]
section R2
variable {M0 M M1 M2 N : Int → Int → Int} {G : GG} {td r rg t n w v mk : Int}
def wAt (M0 M : Int → Int → Int) (w : Int) (k : Nat) : Prop := M w 0 = M0 24 0 ∧ M w 1 = M0 24 1 ∧ M w 2 = M0 24 2 ∧ M w 6 = M0 24 6 ∧ mW M w ∧ M (w + 1) = bhM M0 24 k ∧ M (w + 2) = M0 26 ∧ M (w + 3) = M0 27
theorem wAt_go (hwf : wfW (M0 24 0) (M0 24 1) (M0 24 2) mk (M0 26) (M0 27) (M0 24 6) (M0 25)) (hns : ∀ t, 0 ≤ t → t < M0 24 2 → M0 27 (4 * t) ≠ 9) (hz : zoW M0 24) (hg : gW G w) (q1 : G.1 123 = 1) (q3 : G.2.1 123 = 216) (hs : 123 < w ∨ w + 3 < 123) (hzs : zO 216 (M 123)) {k : Nat} (hA : wAt M0 M w k) : Ok (M_X8_goOn (M, G) w 123) (fun h => ∃ M1, h = (M1, G) ∧ wAt M0 M1 w (k + 1) ∧ zO 216 (M1 123) ∧ ∀ a, a ≠ w → a ≠ w + 1 → a ≠ 123 → M1 a = M a) := by
  obtain ⟨x0, x1, x2, x6, hm, y1, y2, y3⟩ := hA
  have hw := bh_wf hwf k
  have t6 := hwf.2.2.2.2.2.1
  have hr := rk_zero hns (M0 24 2).toNat (by have := hwf.2.2.2.2.1; omega)
  rw [hr, Nat.mul_zero] at hw
  have hzk : zO 216 (M (w + 1)) := by rw [y1]; exact bh_o t6 hz.1 k
  have hgo := X8_goOn_ok (M := M) (mk := mk) hg hm (by unfold zoW; rw [y2, y3]; exact ⟨hzk, hz.2.1, hz.2.2⟩) (by show wfW _ _ _ _ _ _ _ _; rw [x0, x1, x2, x6, y1, y2, y3]; exact hw) q1 q3 hs hzs
  refine Ok.of hgo ⟨_, rfl, ?_, ?_, fun a n0 n1 n2 => ?_⟩
  · unfold wAt mW
    rw [sr_s, u1_k _ _ (by omega), u1_k _ _ (by omega), u1_k _ _ (by omega), u1_s, u1_k _ _ (by omega), u1_k _ _ (by omega), u1_k _ _ (by omega)]
    refine ⟨x0, x1, x2, ?_, hm, ?_, ?_, ?_⟩
    · rw [y3, x2, hr]; exact x6
    · rw [sr_a _ _ (by omega), sr_s, x0, x1, x2, x6, y1, y2, y3]
      exact rk_none hns
    · rw [sr_a _ _ (by omega), sr_a _ _ (by omega), sr_a _ _ (by omega)]; exact y2
    · rw [sr_a _ _ (by omega), sr_a _ _ (by omega), sr_a _ _ (by omega)]; exact y3
  · rw [sr_a _ _ (by omega), sr_a _ _ (by omega), sr_s]
    exact hzk
  · rw [sr_a _ _ n0, sr_a _ _ n1, sr_a _ _ n2]
/-- becoming one like it -/
theorem wAt_be (hz : zoW M0 24) (t6 : M0 24 2 ≤ 6) (hg : gW G w) (hg' : gW G v) (hne : v + 3 < w ∨ w + 3 < v) (hm : mW M w) (hzw : zoW M w) {k : Nat} (hA : wAt M0 M v k) : Ok (M_X8_become (M, G) w v) (fun h => ∃ M1, h = (M1, G) ∧ wAt M0 M1 w k ∧ ∀ a, a < w ∨ w + 3 < a → M1 a = M a) := by
  obtain ⟨x0, x1, x2, x6, hm', y1, y2, y3⟩ := hA
  have hbe := X8_become_ok hg hm hzw hg' hm' (by unfold zoW; rw [y1, y2, y3]; exact ⟨bh_o t6 hz.1 k, hz.2.1, hz.2.2⟩) hne
  refine Ok.of hbe ⟨_, rfl, ?_, fun a ha => be_a ha⟩
  unfold wAt mW
  rw [be_0, be_1, be_2, be_3]
  exact ⟨x0, x1, x2, x6, hm, y1, y2, y3⟩
end R2
