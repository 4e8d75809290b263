/-! ===== what is done to lives, as one value ===== -/
def AGP (P : Nat) (v u : VLives) : Prop := (∀ l, l < P → Lives_purse v l = Lives_purse u l ∧ Lives_debt v l = Lives_debt u l ∧ Lives_home v l = Lives_home u l ∧ Lives_hidden v l = Lives_hidden u l ∧ Lives_self v l = Lives_self u l) ∧ Lives_away v = Lives_away u ∧ Lives_days v = Lives_days u ∧ Lives_homes v = Lives_homes u ∧ Lives_harm v = Lives_harm u ∧ (¬ Lives_away v = 0 → ∀ l, l < P → Lives_worthThen v l = Lives_worthThen u l ∧ Lives_homeThen v l = Lives_homeThen u l)
theorem AGP.refl (P : Nat) (v : VLives) : AGP P v v := ⟨fun _ _ => ⟨rfl, rfl, rfl, rfl, rfl⟩, rfl, rfl, rfl, rfl, fun _ _ _ => ⟨rfl, rfl⟩⟩
theorem AGP.symm {P : Nat} {v u : VLives} (h : AGP P v u) : AGP P u v := by
  obtain ⟨h1, h2, h3, h4, h5, h6⟩ := h
  refine ⟨fun l hl => ?_, h2.symm, h3.symm, h4.symm, h5.symm, fun ha l hl => ?_⟩
  · obtain ⟨a1, a2, a3, a4, a5⟩ := h1 l hl
    exact ⟨a1.symm, a2.symm, a3.symm, a4.symm, a5.symm⟩
  · obtain ⟨a1, a2⟩ := h6 (by rw [h2]; exact ha) l hl
    exact ⟨a1.symm, a2.symm⟩
theorem AGP.trans {P : Nat} {v u t : VLives} (h : AGP P v u) (g : AGP P u t) : AGP P v t := by
  obtain ⟨h1, h2, h3, h4, h5, h6⟩ := h
  obtain ⟨g1, g2, g3, g4, g5, g6⟩ := g
  refine ⟨fun l hl => ?_, h2.trans g2, h3.trans g3, h4.trans g4, h5.trans g5, fun ha l hl => ?_⟩
  · obtain ⟨a1, a2, a3, a4, a5⟩ := h1 l hl
    obtain ⟨b1, b2, b3, b4, b5⟩ := g1 l hl
    exact ⟨a1.trans b1, a2.trans b2, a3.trans b3, a4.trans b4, a5.trans b5⟩
  · obtain ⟨a1, a2⟩ := h6 ha l hl
    obtain ⟨b1, b2⟩ := g6 (by rw [← h2]; exact ha) l hl
    exact ⟨a1.trans b1, a2.trans b2⟩
theorem LR.ag {P b : Nat} {st : Nat → Int32} {v u : VLives} (h : LR P b st v) (g : AGP P v u) : LR P b st u := by
  obtain ⟨h1, h2, h3, h4, h5, h6, h7⟩ := h
  obtain ⟨g1, g2, g3, g4, g5, g6⟩ := g
  refine ⟨fun l hl => ?_, h2.trans g2, h3.trans g3, h4.trans g4, h5.trans g5, by rw [← g2]; exact h6, fun ha l hl => ?_⟩
  · obtain ⟨a1, a2, a3, a4, a5⟩ := h1 l hl
    obtain ⟨b1, b2, b3, b4, b5⟩ := g1 l hl
    exact ⟨a1.trans b1, a2.trans b2, a3.trans b3, a4.trans b4, a5.trans b5⟩
  · have ha2 : ¬ Lives_away v = 0 := by rw [g2]; exact ha
    obtain ⟨a1, a2⟩ := h7 ha2 l hl
    obtain ⟨b1, b2⟩ := g6 ha2 l hl
    exact ⟨a1.trans b1, a2.trans b2⟩
theorem LI.ag {P : Nat} {v u : VLives} (h : LI P v) (g : AGP P v u) : LI P u := by
  obtain ⟨h1, h2, h3, h4, h5, h6, h7, h8⟩ := h
  obtain ⟨g1, g2, g3, g4, g5, g6⟩ := g
  refine ⟨fun l hl => ?_, fun l hl => ?_, fun l hl => ?_, fun l k hl hk => ?_, ?_, fun ha l hl => ?_, fun l hl => ?_, fun ha l hl => ?_⟩
  · obtain ⟨a1, a2⟩ := h1 l hl
    obtain ⟨b1, b2, b3, b4, b5⟩ := g1 l hl
    exact ⟨by rw [← show Lives_purse v l = (Lives_purse u, Lives_debt u, Lives_home u).1 l from b1]; exact a1, by rw [← show Lives_debt v l = (Lives_purse u, Lives_debt u, Lives_home u).2.1 l from b2]; exact a2⟩
  · rw [← (g1 l hl).2.2.2.1]; exact h2 l hl
  · rw [← (g1 l hl).2.2.2.2]; exact h3 l hl
  · rw [← (g1 l hl).2.2.2.2, ← (g1 k hk).2.2.2.2]; exact h4 l k hl hk
  · rw [← g3]; exact h5
  · rw [← (g1 l hl).2.2.2.2]; exact h6 (by rw [g2]; exact ha) l hl
  · rw [← (g1 l hl).2.2.1]; exact h7 l hl
  · have ha2 : ¬ Lives_away v = 0 := by rw [g2]; exact ha
    rw [← (g6 ha2 l hl).1, ← (g6 ha2 l hl).2]
    exact h8 ha2 l hl
theorem hmOf_ag {P l : Nat} {v u : VLives} (g : AGP P v u) (hl : l < P) : hmOf v l = hmOf u l ∧ gdOf v l = gdOf u l := by
  obtain ⟨g1, g2, g3, g4, g5, g6⟩ := g
  obtain ⟨b1, b2, b3, b4, b5⟩ := g1 l hl
  unfold hmOf gdOf
  rw [← g2]
  by_cases ha : Lives_away v = 0
  · rw [if_pos ha, if_pos ha, if_pos ha, if_pos ha]
    exact ⟨rfl, rfl⟩
  · obtain ⟨c1, c2⟩ := g6 ha l hl
    rw [if_neg ha, if_neg ha, if_neg ha, if_neg ha, b1, b2, b3, c1, c2]
    exact ⟨rfl, rfl⟩
theorem sums_ag {P : Nat} {v u : VLives} (g : AGP P v u) : sumN (hmOf v) P 0 0 = sumN (hmOf u) P 0 0 ∧ sumN (gdOf v) P 0 0 = sumN (gdOf u) P 0 0 ∧ sumN (Lives_purse v) P 0 0 = sumN (Lives_purse u) P 0 0 ∧ sumN (Lives_debt v) P 0 0 = sumN (Lives_debt u) P 0 0 :=
  ⟨sumN_cong fun l _ h => (hmOf_ag g (by omega)).1, sumN_cong fun l _ h => (hmOf_ag g (by omega)).2, sumN_cong fun l _ h => (g.1 l (by omega)).1, sumN_cong fun l _ h => (g.1 l (by omega)).2.1⟩
def leaveV (v : VLives) (row : Nat → Int32) : VLives := (Lives_purse v, Lives_debt v, Lives_home v, Lives_hidden v, row, (fun l => Lives_purse v l - Lives_debt v l), Lives_home v, 1, 0, Lives_homes v, Lives_harm v)
def T3V (v : VLives) : T3 := (Lives_purse v, Lives_debt v, Lives_home v)
def putV (v : VLives) (s : T3) (d : Int32) : VLives := (s.1, s.2.1, s.2.2, Lives_hidden v, Lives_self v, Lives_worthThen v, Lives_homeThen v, Lives_away v, d, Lives_homes v, Lives_harm v)
def dayV (v1 : VTown) (v2 : VLaws) (P : Nat) (sg : Int32) (v : VLives) : VLives := putV v (dayS v1 v2 P sg (Lives_hidden v) (Lives_self v) (T3V v)) (Lives_days v + 1)
def daysV (v1 : VTown) (v2 : VLaws) (P : Nat) (sg : Int32) : Nat → VLives → VLives
  | 0, v => v
  | n + 1, v => daysV v1 v2 P sg n (dayV v1 v2 P sg v)
theorem daysV_eq (v1 : VTown) (v2 : VLaws) (P : Nat) (sg : Int32) : ∀ (n : Nat) (v : VLives), daysV v1 v2 P sg n v = putV v (daysS v1 v2 P sg (Lives_hidden v) (Lives_self v) n (T3V v)) (Lives_days v + nI n)
  | 0, v => by
    show v = putV v (T3V v) (Lives_days v + nI 0)
    rw [nI_0, show Lives_days v + 0 = Lives_days v by grind]
    rfl
  | n + 1, v => by
    show daysV v1 v2 P sg n (dayV v1 v2 P sg v) = _
    rw [daysV_eq v1 v2 P sg n]
    show putV v (daysS v1 v2 P sg (Lives_hidden v) (Lives_self v) n (dayS v1 v2 P sg (Lives_hidden v) (Lives_self v) (T3V v))) (Lives_days v + 1 + nI n) = _
    rw [nI_succ, show Lives_days v + 1 + nI n = Lives_days v + (nI n + 1) by grind]
    rfl
def homeV (P : Nat) (v : VLives) : VLives := (Lives_purse v, Lives_debt v, Lives_home v, (fun _ => 0), (fun l => nI l), Lives_worthThen v, Lives_homeThen v, 0, 0, Lives_homes v + 1, Lives_harm v + sumN (hmOf v) P 0 0)
/-! the same from the same -/
def st0 (hid self : Nat → Int32) (s : T3) : Nat → Int32 := fun k => if k < 10 then s.1 (k - 4) else if k < 16 then s.2.1 (k - 10) else if k < 22 then s.2.2 (k - 16) else if k < 28 then hid (k - 22) else self (k - 28)
theorem st0_SR {P : Nat} {hid self hid' self' : Nat → Int32} {s s' : T3} (hP : P ≤ 6) (h : ∀ l, l < P → s.1 l = s'.1 l ∧ s.2.1 l = s'.2.1 l ∧ s.2.2 l = s'.2.2 l ∧ hid l = hid' l ∧ self l = self' l) : SR P 0 (st0 hid self s) hid' self' s' := by
  intro l hl
  obtain ⟨h1, h2, h3, h4, h5⟩ := h l hl
  unfold st0
  refine ⟨?_, ?_, ?_, ?_, ?_⟩
  · rw [if_pos (by omega), show 0 + 4 + l - 4 = l by omega]; exact h1
  · rw [if_neg (by omega), if_pos (by omega), show 0 + 10 + l - 10 = l by omega]; exact h2
  · rw [if_neg (by omega), if_neg (by omega), if_pos (by omega), show 0 + 16 + l - 16 = l by omega]; exact h3
  · rw [if_neg (by omega), if_neg (by omega), if_neg (by omega), if_pos (by omega), show 0 + 22 + l - 22 = l by omega]; exact h4
  · rw [if_neg (by omega), if_neg (by omega), if_neg (by omega), if_neg (by omega), show 0 + 28 + l - 28 = l by omega]; exact h5
theorem dayS_cong {w : VR} {v1 : VTown} {v2 : VLaws} {P g : Nat} {hid self hid' self' : Nat → Int32} {s s' : T3} (hT : townR w v1 v2 P) (hg : g ≤ 999) (hp : puOk P s) (hh : hidOk P hid) (hs : selfOk P self) (h : ∀ l, l < P → s.1 l = s'.1 l ∧ s.2.1 l = s'.2.1 l ∧ s.2.2 l = s'.2.2 l ∧ hid l = hid' l ∧ self l = self' l) : ∀ l, l < P → (dayS v1 v2 P (nI g) hid self s).1 l = (dayS v1 v2 P (nI g) hid' self' s').1 l ∧ (dayS v1 v2 P (nI g) hid self s).2.1 l = (dayS v1 v2 P (nI g) hid' self' s').2.1 l ∧ (dayS v1 v2 P (nI g) hid self s).2.2 l = (dayS v1 v2 P (nI g) hid' self' s').2.2 l := by
  have hP := hT.1.2
  have hp' : puOk P s' := fun l hl => by
    obtain ⟨a1, a2, a3, a4, a5⟩ := h l hl
    rw [← a1, ← a2]; exact hp l hl
  have hh' : hidOk P hid' := fun l hl => by rw [← (h l hl).2.2.2.1]; exact hh l hl
  have hs' : selfOk P self' := fun l hl => by rw [← (h l hl).2.2.2.2]; exact hs l hl
  obtain ⟨q, e, q1, -, -⟩ := passes_ev (N := 10000) (by omega) (w := R_signed_s (R_state_s w (st0 hid self s)) (nI g)) (v1 := v1) (v2 := v2) (b := 0) (hid := hid) (self := self) (s := s) (by omega) hT hs hh rfl hg (st0_SR hP fun l hl => ⟨rfl, rfl, rfl, rfl, rfl⟩) hp
  obtain ⟨q', e', q1', -, -⟩ := passes_ev (N := 10000) (by omega) (w := R_signed_s (R_state_s w (st0 hid self s)) (nI g)) (v1 := v1) (v2 := v2) (b := 0) (hid := hid') (self := self') (s := s') (by omega) hT hs' hh' rfl hg (st0_SR hP h) hp'
  have e2 : q = q' := Option.some.inj (e.symm.trans e')
  subst e2
  intro l hl
  obtain ⟨a1, a2, a3, -, -⟩ := q1 l hl
  obtain ⟨b1, b2, b3, -, -⟩ := q1' l hl
  exact ⟨a1.symm.trans b1, a2.symm.trans b2, a3.symm.trans b3⟩
theorem dayV_ag {w : VR} {v1 : VTown} {v2 : VLaws} {P g : Nat} {v u : VLives} (hT : townR w v1 v2 P) (hg : g ≤ 999) (hp : puOk P (T3V v)) (hh : hidOk P (Lives_hidden v)) (hs : selfOk P (Lives_self v)) (h : AGP P v u) : AGP P (dayV v1 v2 P (nI g) v) (dayV v1 v2 P (nI g) u) := by
  obtain ⟨h1, h2, h3, h4, h5, h6⟩ := h
  have := dayS_cong (s := T3V v) (s' := T3V u) hT hg hp hh hs h1
  refine ⟨fun l hl => ?_, h2, ?_, h4, h5, h6⟩
  · obtain ⟨a1, a2, a3⟩ := this l hl
    exact ⟨a1, a2, a3, (h1 l hl).2.2.2.1, (h1 l hl).2.2.2.2⟩
  · show Lives_days v + 1 = Lives_days u + 1
    rw [h3]
theorem daysV_ag {w : VR} {v1 : VTown} {v2 : VLaws} {P g : Nat} (hT : townR w v1 v2 P) (hg : g ≤ 999) : ∀ (n : Nat) {v u : VLives}, puOk P (T3V v) → hidOk P (Lives_hidden v) → selfOk P (Lives_self v) → AGP P v u → AGP P (daysV v1 v2 P (nI g) n v) (daysV v1 v2 P (nI g) n u)
  | 0, _, _, _, _, _, h => h
  | n + 1, _, _, hp, hh, hs, h => daysV_ag hT hg n (dayS_pu hT.1.2 hh hs hg hp) hh hs (dayV_ag hT hg hp hh hs h)
theorem leaveV_ag {P : Nat} {v u : VLives} {r r' : Nat → Int32} (h : AGP P v u) (hr : ∀ l, l < P → r l = r' l) : AGP P (leaveV v r) (leaveV u r') := by
  obtain ⟨h1, h2, h3, h4, h5, h6⟩ := h
  refine ⟨fun l hl => ?_, rfl, rfl, h4, h5, fun _ l hl => ?_⟩
  · obtain ⟨a1, a2, a3, a4, a5⟩ := h1 l hl
    exact ⟨a1, a2, a3, a4, hr l hl⟩
  · obtain ⟨a1, a2, a3, a4, a5⟩ := h1 l hl
    refine ⟨?_, a3⟩
    show Lives_purse v l - Lives_debt v l = Lives_purse u l - Lives_debt u l
    rw [a1, a2]
theorem homeV_ag {P : Nat} {v u : VLives} (h : AGP P v u) : AGP P (homeV P v) (homeV P u) := by
  have hs := (sums_ag h).1
  obtain ⟨h1, h2, h3, h4, h5, h6⟩ := h
  refine ⟨fun l hl => ?_, rfl, rfl, ?_, ?_, fun ha => absurd rfl ha⟩
  · obtain ⟨a1, a2, a3, a4, a5⟩ := h1 l hl
    exact ⟨a1, a2, a3, rfl, rfl⟩
  · show Lives_homes v + 1 = Lives_homes u + 1
    rw [h4]
  · show Lives_harm v + sumN (hmOf v) P 0 0 = Lives_harm u + sumN (hmOf u) P 0 0
    rw [h5, hs]
/-! ===== the class does so ===== -/
theorem copy_ev {N : Nat} {v u : VLives} {v1 : VTown} {v2 : VLaws} (ha : Lives_away u = 0 ∨ Lives_away u = 1) : Ev (f_Lives_copyFrom N v v1 v2 u) (fun q => AGP 6 q u) := by
  unfold f_Lives_copyFrom
  rw [if_pos ha]
  have hc : ∀ f g : Nat → Int32, ∀ l, l < 6 → va_cpy f g (Int32.toNatClampNeg 0) (Int32.toNatClampNeg 0) (Int32.toNatClampNeg 6) l = f l := fun f g l hl => by
    show (if 0 ≤ l ∧ l < 0 + 6 then f (0 + (l - 0)) else g l) = f l
    rw [if_pos ⟨by omega, by omega⟩, show 0 + (l - 0) = l by omega]
  exact Ev.ret ⟨fun l hl => ⟨hc _ _ l hl, hc _ _ l hl, hc _ _ l hl, hc _ _ l hl, hc _ _ l hl⟩, rfl, rfl, rfl, rfl, fun _ l hl => ⟨hc _ _ l hl, hc _ _ l hl⟩⟩
theorem AGP.le {P Q : Nat} {v u : VLives} (h : AGP Q v u) (hP : P ≤ Q) : AGP P v u := by
  obtain ⟨h1, h2, h3, h4, h5, h6⟩ := h
  exact ⟨fun l hl => h1 l (by omega), h2, h3, h4, h5, fun ha l hl => h6 ha l (by omega)⟩
theorem goAway_ag {N : Nat} (hN : 10000 ≤ N) {v : VLives} {v1 : VTown} {v2 : VLaws} {v3 : VLots} {L p : Nat} (hc : Lots_count v3 = nI L) (hL : L ≤ 265) (hp : p < L) : Ev (f_Lives_goAway N v v1 v2 v3 (nI p)) (fun q => AGP 6 (Lives_purse v, Lives_debt v, Lives_home v, Lives_hidden v, q.1, q.2.1, q.2.2.1, q.2.2.2.1, q.2.2.2.2, Lives_homes v, Lives_harm v) (leaveV v (rowOf v3 p))) := by
  refine (goAway_ev hN hc hL hp).mono ?_
  rintro q ⟨q1, q2, q3⟩
  refine ⟨fun l hl => ⟨rfl, rfl, rfl, rfl, (q1 l hl).1⟩, q2, q3, rfl, rfl, fun _ l hl => ⟨(q1 l hl).2.1, (q1 l hl).2.2⟩⟩
theorem passDays_v {N : Nat} (hN : 10000 ≤ N) {v : VLives} {v1 : VTown} {v2 : VLaws} {P n : Nat} {sg : Int32} (hn : n ≤ 7) (hP : tpl v1 P) (hs : selfOk P (Lives_self v)) (h0 : lawOk v2 0) (h1 : lawOk v2 1) : Ev (f_Lives_passDays N v v1 v2 (nI n) sg) (fun q => (q.1, q.2.1, q.2.2.1, Lives_hidden v, Lives_self v, Lives_worthThen v, Lives_homeThen v, Lives_away v, q.2.2.2.1, Lives_homes v, Lives_harm v) = daysV v1 v2 P sg n v) := by
  obtain ⟨fa, sk, e⟩ := passDays_ok hN (sg := sg) hn hP hs h0 h1
  exact ⟨_, e, (daysV_eq v1 v2 P sg n v).symm⟩
theorem goHome_ag {N : Nat} (hN : 10000 ≤ N) {v : VLives} {v1 : VTown} {v2 : VLaws} {P : Nat} (hP : tpl v1 P) (ha : ¬ Lives_away v = 0) : Ev (f_Lives_goHome N v v1 v2) (fun q => q.1 = sumN (hmOf v) P 0 0 ∧ AGP P (Lives_purse v, Lives_debt v, Lives_home v, q.2.1, q.2.2.1, Lives_worthThen v, Lives_homeThen v, q.2.2.2.1, q.2.2.2.2.1, q.2.2.2.2.2.1, q.2.2.2.2.2.2) (homeV P v)) := by
  have h6 := hP.2
  refine (goHome_ev hN hP ha).mono ?_
  rintro q ⟨q1, q2, q3, q4, q5, q6⟩
  refine ⟨q1, fun l hl => ⟨rfl, rfl, rfl, (q2 l (by omega)).1, (q2 l (by omega)).2⟩, q3, q4, q5, q6, fun h => absurd q3 h⟩
/-! ===== the reference does so ===== -/
theorem leaves_v {N : Nat} (hN : 10000 ≤ N) {w : VR} {v1 : VTown} {v2 : VLaws} {v3 : VLots} {v : VLives} {P L b p : Nat} (hb : b ≤ 1584) (hT : townR w v1 v2 P) (hl : lotsR w v3 P L) (hp : p < L) (h : LR P b (R_state w) v) : Ev (f_R_leaves N w (nI b) (nI p)) (fun q => LR P b q (leaveV v (rowOf v3 p)) ∧ Fr b (b + 46) (R_state w) q) := by
  have h6 := hT.1.2
  refine (leaves_ev hN hb hT hl hp).mono ?_
  rintro q ⟨q1, q2, q3, q4⟩
  obtain ⟨h1, h2, h3, h4, h5, h7, h8⟩ := h
  refine ⟨⟨fun l hl => ?_, q2, q3, ?_, ?_, Or.inr rfl, fun _ l hl => ?_⟩, fun j hj => q4 j (by omega) (by omega) (fun l hl => by omega)⟩
  · obtain ⟨a1, a2, a3, a4, a5⟩ := h1 l hl
    refine ⟨?_, ?_, ?_, ?_, (q1 l hl).1⟩
    · rw [q4 _ (by omega) (by omega) (fun i hi => by omega)]; exact a1
    · rw [q4 _ (by omega) (by omega) (fun i hi => by omega)]; exact a2
    · rw [q4 _ (by omega) (by omega) (fun i hi => by omega)]; exact a3
    · rw [q4 _ (by omega) (by omega) (fun i hi => by omega)]; exact a4
  · rw [q4 _ (by omega) (by omega) (fun i hi => by omega)]; exact h4
  · rw [q4 _ (by omega) (by omega) (fun i hi => by omega)]; exact h5
  · obtain ⟨a1, a2, a3, a4, a5⟩ := h1 l hl
    obtain ⟨b1, b2, b3⟩ := q1 l hl
    refine ⟨?_, ?_⟩
    · rw [b2, a1, a2]; rfl
    · rw [b3, a3]; rfl
theorem passes_v {N : Nat} (hN : 10000 ≤ N) {w : VR} {v1 : VTown} {v2 : VLaws} {v : VLives} {P b g : Nat} (hb : b ≤ 1584) (hT : townR w v1 v2 P) (hs : selfOk P (Lives_self v)) (hh : hidOk P (Lives_hidden v)) (hp : puOk P (T3V v)) (hsg : R_signed w = nI g) (hg : g ≤ 999) (h : LR P b (R_state w) v) : Ev (f_R_passes N w (nI b)) (fun q => LR P b q.2.2 (dayV v1 v2 P (nI g) v) ∧ Fr b (b + 46) (R_state w) q.2.2) := by
  have h6 := hT.1.2
  obtain ⟨h1, h2, h3, h4, h5, h7, h8⟩ := h
  refine (passes_ev hN hb hT hs hh hsg hg (s := T3V v) h1 hp).mono ?_
  rintro q ⟨q1, q2, q3⟩
  refine ⟨⟨q1, ?_, ?_, ?_, ?_, h7, fun ha l hl => ?_⟩, fun j hj => q3 j (by omega)⟩
  · rw [q3 _ (by omega)]; exact h2
  · rw [q2, h3]; rfl
  · rw [q3 _ (by omega)]; exact h4
  · rw [q3 _ (by omega)]; exact h5
  · rw [q3 _ (by omega), q3 _ (by omega)]; exact h8 ha l hl
theorem goesHome_v {N : Nat} (hN : 10000 ≤ N) {w : VR} {v1 : VTown} {v2 : VLaws} {v : VLives} {P b : Nat} (hb : b ≤ 1584) (hT : townR w v1 v2 P) (h : LR P b (R_state w) v) : Ev (f_R_goesHome N w (nI b)) (fun q => q.1 = sumN (hmOf v) P 0 0 ∧ LR P b q.2 (homeV P v) ∧ Fr b (b + 46) (R_state w) q.2) := by
  have h6 := hT.1.2
  refine (goesHome_ev hN hb hT h).mono ?_
  rintro q ⟨q1, q2, q3, q4, q5, q6, q7⟩
  obtain ⟨h1, h2, h3, h4, h5, h8, h9⟩ := h
  refine ⟨q1, ⟨fun l hl => ?_, q3, q4, q5, q6, Or.inl rfl, fun ha => absurd rfl ha⟩, fun j hj => q7 j (by omega) (fun l hl => by omega)⟩
  obtain ⟨a1, a2, a3, a4, a5⟩ := h1 l hl
  refine ⟨?_, ?_, ?_, (q2 l hl).2, (q2 l hl).1⟩
  · rw [q7 _ (by omega) (fun i hi => by omega)]; exact a1
  · rw [q7 _ (by omega) (fun i hi => by omega)]; exact a2
  · rw [q7 _ (by omega) (fun i hi => by omega)]; exact a3
/-! ===== HARM is a number, and no great one ===== -/
theorem harm1_num {a b p d x y : Nat} (ha : a ≤ 9999) (hb : b ≤ 999) (hp : p ≤ 9999) (hd : d ≤ 999) (hx : x ≤ 9) (hy : y ≤ 9) : ∃ n, n ≤ 20000 ∧ harm1 (nI a - nI b) (nI p) (nI d) (nI x) (nI y) = nI n := by
  have e1 : (nI a - nI b) - (nI p - nI d) = nI (a + d) - nI (b + p) := by
    rw [← nI_add, ← nI_add]
    grind
  have e2 : ∃ m, m ≤ 10998 ∧ (if 0 < (nI a - nI b) - (nI p - nI d) then (nI a - nI b) - (nI p - nI d) else 0) = nI m := by
    rw [e1]
    by_cases h : b + p ≤ a + d
    · rw [pk_sub h]
      split
      · exact ⟨_, by omega, rfl⟩
      · exact ⟨0, by omega, rfl⟩
    · have := pk_sneg (a := a + d) (b := b + p) (by omega) (by omega)
      rw [if_neg (by grind)]
      exact ⟨0, by omega, rfl⟩
  have e3 : ∃ m, m ≤ 9 ∧ (if 0 < nI x - nI y then nI x - nI y else 0) = nI m := by
    by_cases h : y ≤ x
    · rw [pk_sub h]
      split
      · exact ⟨_, by omega, rfl⟩
      · exact ⟨0, by omega, rfl⟩
    · have := pk_sneg (a := x) (b := y) (by omega) (by omega)
      rw [if_neg (by grind)]
      exact ⟨0, by omega, rfl⟩
  obtain ⟨m, h1, h2⟩ := e2
  obtain ⟨k, h3, h4⟩ := e3
  unfold harm1
  rw [h2, h4, show (5 : Int32) * nI k = nI (5 * k) from pk_mul 5 k, nI_add]
  exact ⟨m + 5 * k, by omega, rfl⟩
theorem hm_num {P l : Nat} {v : VLives} (h : LI P v) (hl : l < P) : ∃ n, n ≤ 20000 ∧ hmOf v l = nI n := by
  unfold hmOf
  by_cases hz : Lives_away v = 0
  · rw [if_pos hz]
    exact ⟨0, by omega, rfl⟩
  · rw [if_neg hz]
    obtain ⟨⟨p, hp, e1⟩, ⟨d, hd, e2⟩⟩ := h.1 l hl
    obtain ⟨y, hy, e3⟩ := h.2.2.2.2.2.2.1 l hl
    obtain ⟨⟨a, b, ha, hb, e4⟩, ⟨x, hx, e5⟩⟩ := h.2.2.2.2.2.2.2 hz l hl
    have e1 : Lives_purse v l = nI p := e1
    have e2 : Lives_debt v l = nI d := e2
    rw [e1, e2, e3, e4, e5]
    exact harm1_num ha hb hp hd hx hy
theorem sumN_num {f : Nat → Int32} {B : Nat} : ∀ (r k a : Nat), (∀ l, k ≤ l → l < k + r → ∃ n, n ≤ B ∧ f l = nI n) → ∃ s, s ≤ a + r * B ∧ a ≤ s ∧ sumN f r k (nI a) = nI s
  | 0, k, a, _ => ⟨a, by omega, Nat.le_refl _, rfl⟩
  | r + 1, k, a, h => by
    obtain ⟨n, hn, e⟩ := h k (by omega) (by omega)
    obtain ⟨s, h1, h2, h3⟩ := sumN_num r (k + 1) (a + n) (fun l h1 h2 => h l (by omega) (by omega))
    refine ⟨s, ?_, by omega, ?_⟩
    · have : (r + 1) * B = r * B + B := Nat.succ_mul r B
      omega
    · show sumN f r (k + 1) (nI a + f k) = nI s
      rw [e, nI_add]
      exact h3
theorem hmAll_num {P : Nat} {v : VLives} (h6 : P ≤ 6) (h : LI P v) : ∃ s, s ≤ 120000 ∧ sumN (hmOf v) P 0 0 = nI s := by
  obtain ⟨s, h1, -, h3⟩ := sumN_num (f := hmOf v) (B := 20000) P 0 0 (fun l _ h2 => hm_num h (by omega))
  have : P * 20000 ≤ 6 * 20000 := Nat.mul_le_mul_right _ h6
  exact ⟨s, by omega, h3⟩
theorem mdH_num (h b : Int32) : ∃ n, n ≤ 9 ∧ mdH h b = nI n := by
  unfold mdH
  by_cases c : 0 < (if h + b < 9 then h + b else 9)
  · rw [if_pos c]
    obtain ⟨n, hn, e⟩ := nI_of (x := (if h + b < 9 then h + b else 9)) (by grind)
    refine ⟨n, ?_, e⟩
    have h9 : (if h + b < 9 then h + b else 9) ≤ nI 9 := by
      show _ ≤ (9 : Int32)
      split <;> grind
    rw [e, nI_leI hn (by decide)] at h9
    exact h9
  · rw [if_neg c]
    exact ⟨0, by omega, rfl⟩
def hoOk (P : Nat) (s : T3) : Prop := ∀ l, l < P → ∃ n, n ≤ 9 ∧ s.2.2 l = nI n
theorem lifeS_ho {v1 : VTown} {v2 : VLaws} {P l : Nat} {sg : Int32} {hid self : Nat → Int32} {s : T3} (h : hoOk P s) : hoOk P (lifeS v1 v2 P sg hid self s l) := by
  have e3 : (spendS v1 v2 P sg hid self s l).2.2 = s.2.2 := by
    unfold spendS spend2
    split <;> rfl
  intro k hk
  show ∃ n, n ≤ 9 ∧ upd (spendS v1 v2 P sg hid self s l).2.2 l _ k = nI n
  by_cases e : k = l
  · subst e
    rw [pk_us]
    exact mdH_num _ _
  · rw [pk_un e, e3]
    exact h k hk
theorem livesS_ho {v1 : VTown} {v2 : VLaws} {P : Nat} {sg : Int32} {hid self : Nat → Int32} : ∀ (r k : Nat) (s : T3), hoOk P s → hoOk P (livesS v1 v2 P sg hid self r k s)
  | 0, _, _, h => h
  | r + 1, k, s, h => livesS_ho r (k + 1) _ (lifeS_ho h)
theorem LI_day {v1 : VTown} {v2 : VLaws} {P g : Nat} {v : VLives} (h6 : P ≤ 6) (hg : g ≤ 999) (h : LI P v) (hd : ∃ d, d ≤ 6 ∧ Lives_days v = nI d) : LI P (dayV v1 v2 P (nI g) v) := by
  obtain ⟨h1, h2, h3, h4, h5, h7, h8, h9⟩ := h
  obtain ⟨d, hd, e⟩ := hd
  refine ⟨dayS_pu h6 h2 h3 hg h1, h2, h3, h4, ⟨d + 1, by omega, ?_⟩, h7, livesS_ho P 0 _ h8, h9⟩
  show Lives_days v + 1 = nI (d + 1)
  rw [e]; exact nI_1 d
theorem LI_leave {P : Nat} {v : VLives} {row : Nat → Int32} (h : LI P v) (h1 : selfOk P row) (h2 : ∀ l m, l < P → m < P → row l = row m → l = m) : LI P (leaveV v row) := by
  refine ⟨h.1, h.2.1, h1, h2, ⟨0, by omega, rfl⟩, fun e => absurd e (by show ¬ (1 : Int32) = 0; decide), h.2.2.2.2.2.2.1, fun _ l hl => ⟨?_, h.2.2.2.2.2.2.1 l hl⟩⟩
  obtain ⟨⟨p, hp, e1⟩, ⟨d, hd, e2⟩⟩ := h.1 l hl
  have e1 : Lives_purse v l = nI p := e1
  have e2 : Lives_debt v l = nI d := e2
  exact ⟨p, d, hp, hd, by show Lives_purse v l - Lives_debt v l = _; rw [e1, e2]⟩
theorem LI_home {P : Nat} {v : VLives} (h6 : P ≤ 6) (h : LI P v) : LI P (homeV P v) :=
  ⟨h.1, fun l _ => ⟨0, by omega, rfl⟩, fun l hl => ⟨l, hl, rfl⟩, fun l m hl hm e => (nI_eq (by omega) (by omega)).mp e, ⟨0, by omega, rfl⟩, fun _ l _ => rfl, h.2.2.2.2.2.2.1, fun e => absurd rfl e⟩
theorem LI_days {v1 : VTown} {v2 : VLaws} {P g : Nat} (h6 : P ≤ 6) (hg : g ≤ 999) : ∀ (n d : Nat) (v : VLives), LI P v → Lives_days v = nI d → d + n ≤ 7 → LI P (daysV v1 v2 P (nI g) n v)
  | 0, _, _, h, _, _ => h
  | n + 1, d, v, h, e, hd => LI_days h6 hg n (d + 1) _ (LI_day h6 hg h ⟨d, by omega, e⟩) (by show Lives_days v + 1 = nI (d + 1); rw [e]; exact nI_1 d) (by omega)
