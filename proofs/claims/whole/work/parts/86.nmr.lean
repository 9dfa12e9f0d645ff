/-! THE PURE PART: a name more; how a line begins -/
theorem NMR.congrP {np nu : Nat} {PN PN' UN NA : Nat → Int64} {NS NO : pA} (M : NMR np nu PN UN NA NS NO) (h : ∀ p, p < np → PN' p = PN p) : NMR np nu PN' UN NA NS NO := by
  obtain ⟨m1, m2, m3, m4⟩ := M
  refine ⟨fun k hk => ?_, m2, m3, m4⟩
  obtain ⟨r, hr, e, o⟩ := m1 k hk
  refine ⟨r, hr, e, ?_⟩
  rcases o with ⟨z, p, p1, p2, p3⟩ | o
  · exact Or.inl ⟨z, p, p1, p2, by rw [h p p1]; exact p3⟩
  · exact Or.inr o
theorem NMR.congrU {np nu : Nat} {PN UN UN' NA : Nat → Int64} {NS NO : pA} (M : NMR np nu PN UN NA NS NO) (h : ∀ u, u < nu → UN' u = UN u) : NMR np nu PN UN' NA NS NO := by
  obtain ⟨m1, m2, m3, m4⟩ := M
  refine ⟨fun k hk => ?_, m2, m3, m4⟩
  obtain ⟨r, hr, e, o⟩ := m1 k hk
  refine ⟨r, hr, e, ?_⟩
  rcases o with o | ⟨z, p, p1, p2, p3⟩
  · exact Or.inl o
  · exact Or.inr ⟨z, p, p1, p2, by rw [h p p1]; exact p3⟩
theorem updL_at (f : Nat → Int64) (k : Nat) (v : Int64) : vp_updL f k v k = v := by simp [vp_updL]
theorem updL_ne (f : Nat → Int64) {k j : Nat} (v : Int64) (h : j ≠ k) : vp_updL f k v j = f j := by simp [vp_updL, h]
theorem NMR.addP {np nu : Nat} {PN UN NA : Nat → Int64} {NS NO : pA} (M : NMR np nu PN UN NA NS NO) {r : List Nat} (hr : okw r) (e : PN np = ll (enr 27 r)) (hf : ∀ j, j < np + nu → ¬ NA j = ll (enr 32 r)) : NMR (np + 1) nu PN UN (vp_updL NA (np + nu) (ll (enr 32 r))) (upd NS (np + nu) 0) (upd NO (np + nu) (nn np)) := by
  obtain ⟨m1, m2, m3, m4⟩ := M
  refine ⟨fun k hk => ?_, fun p hp => ?_, fun u hu => ?_, fun k k' hk hk' z => ?_⟩
  · by_cases q : k = np + nu
    · subst q
      rw [updL_at, upd_at, upd_at]
      exact ⟨r, hr, rfl, Or.inl ⟨rfl, np, by omega, rfl, e⟩⟩
    · rw [updL_ne _ _ q, upd_ne _ _ q, upd_ne _ _ q]
      obtain ⟨s, hs, e1, o⟩ := m1 k (by omega)
      refine ⟨s, hs, e1, ?_⟩
      rcases o with ⟨z, p, p1, p2⟩ | o
      · exact Or.inl ⟨z, p, by omega, p2⟩
      · exact Or.inr o
  · by_cases q : p = np
    · subst q
      exact ⟨p + nu, by omega, upd_at _ _ _, upd_at _ _ _⟩
    · obtain ⟨k, k1, k2, k3⟩ := m2 p (by omega)
      exact ⟨k, by omega, by rw [upd_ne _ _ (by omega)]; exact k2, by rw [upd_ne _ _ (by omega)]; exact k3⟩
  · obtain ⟨k, k1, k2, k3⟩ := m3 u hu
    exact ⟨k, by omega, by rw [upd_ne _ _ (by omega)]; exact k2, by rw [upd_ne _ _ (by omega)]; exact k3⟩
  · by_cases q : k = np + nu
    · by_cases q' : k' = np + nu
      · omega
      · rw [q, updL_at, updL_ne _ _ q'] at z
        exact absurd z.symm (hf k' (by omega))
    · by_cases q' : k' = np + nu
      · rw [q', updL_at, updL_ne _ _ q] at z
        exact absurd z (hf k (by omega))
      · rw [updL_ne _ _ q, updL_ne _ _ q'] at z
        exact m4 k k' (by omega) (by omega) z
theorem NMR.addU {np nu : Nat} {PN UN NA : Nat → Int64} {NS NO : pA} (M : NMR np nu PN UN NA NS NO) {r : List Nat} (hr : okw r) (e : UN nu = ll (enr 27 r)) (hf : ∀ j, j < np + nu → ¬ NA j = ll (enr 32 r)) : NMR np (nu + 1) PN UN (vp_updL NA (np + nu) (ll (enr 32 r))) (upd NS (np + nu) 1) (upd NO (np + nu) (nn nu)) := by
  obtain ⟨m1, m2, m3, m4⟩ := M
  refine ⟨fun k hk => ?_, fun u hu => ?_, fun p hp => ?_, fun k k' hk hk' z => ?_⟩
  · by_cases q : k = np + nu
    · subst q
      rw [updL_at, upd_at, upd_at]
      exact ⟨r, hr, rfl, Or.inr ⟨rfl, nu, by omega, rfl, e⟩⟩
    · rw [updL_ne _ _ q, upd_ne _ _ q, upd_ne _ _ q]
      obtain ⟨s, hs, e1, o⟩ := m1 k (by omega)
      refine ⟨s, hs, e1, ?_⟩
      rcases o with o | ⟨z, p, p1, p2⟩
      · exact Or.inl o
      · exact Or.inr ⟨z, p, by omega, p2⟩
  · obtain ⟨k, k1, k2, k3⟩ := m2 u hu
    exact ⟨k, by omega, by rw [upd_ne _ _ (by omega)]; exact k2, by rw [upd_ne _ _ (by omega)]; exact k3⟩
  · by_cases q : p = nu
    · subst q
      exact ⟨np + p, by omega, upd_at _ _ _, upd_at _ _ _⟩
    · obtain ⟨k, k1, k2, k3⟩ := m3 p (by omega)
      exact ⟨k, by omega, by rw [upd_ne _ _ (by omega)]; exact k2, by rw [upd_ne _ _ (by omega)]; exact k3⟩
  · by_cases q : k = np + nu
    · by_cases q' : k' = np + nu
      · omega
      · rw [q, updL_at, updL_ne _ _ q'] at z
        exact absurd z.symm (hf k' (by omega))
    · by_cases q' : k' = np + nu
      · rw [q', updL_at, updL_ne _ _ q] at z
        exact absurd z (hf k (by omega))
      · rw [updL_ne _ _ q, updL_ne _ _ q'] at z
        exact m4 k k' (by omega) (by omega) z
section LBEG
variable {lap srt sp sz pl num flt wa x1 x2 : Int32} {w : Int64} {B : pA}
theorem lb_many (n5 : ¬ srt = 5) (h : x1 = x2) : e_hP_X9_lineBegins lap srt sp sz B pl num w flt wa x1 x2 = some (pl, 5, sp, num, w, 5, pl) := by
  unfold e_hP_X9_lineBegins
  rw [if_pos h, fl0 n5, Option.bind_some]
  dsimp only
  by_cases q : lap = 0
  · rw [if_pos q, fl5, Option.bind_some]
    dsimp only
    rw [go5]
    rfl
  · rw [if_neg q, go5]
    rfl
theorem lb_lacks (n5 : ¬ srt = 5) (h : ¬ x1 = x2) (hl : lap = 0) : e_hP_X9_lineBegins lap srt sp sz B pl num w flt wa x1 x2 = some (pl, 5, sp, num, w, 6, pl) := by
  unfold e_hP_X9_lineBegins
  rw [if_neg h, if_pos hl, fl0 n5, Option.bind_some]
  dsimp only
  rw [go5]
  rfl
theorem lb_ok (h : ¬ x1 = x2) (hl : ¬ lap = 0) {s1 t1 k1 n1 : Int32} {w1 : Int64} (ht : e_hP_X9_goesOn srt sp sz B pl num w = some (s1, t1, k1, n1, w1)) : e_hP_X9_lineBegins lap srt sp sz B pl num w flt wa x1 x2 = some (s1, t1, k1, n1, w1, flt, wa) := by
  unfold e_hP_X9_lineBegins
  rw [if_neg h, if_neg hl, ht]
  rfl
end LBEG
