/-! ===== a new object ===== -/
theorem m_new {N : Nat} (hN : 10000 ≤ N) {w : VR} {und mls : Nat → VLives} {mts : Nat → VTales} (hW : wordsR w) (h1 : R_taped w = 0) (h2 : R_namesMany w = 0) : Ev (f_R_standsAsAlways N w 0) (fun ts => Ev (f_R_begins N (R_towns_s w ts)) (fun q => RELx 0 0 50 dBl dTape dTown dLaws dYear dLots dLives dTales dForecast und mls mts (R_s_lines_state_undos_isMarked_signed_lotRows_lotRow_lotsMany (R_towns_s w ts) q.1 q.2.1 q.2.2.1 q.2.2.2.1 q.2.2.2.2.1 q.2.2.2.2.2.1 q.2.2.2.2.2.2.1 q.2.2.2.2.2.2.2))) := by
  obtain ⟨ts, s1, s2, s3, s4, s5⟩ := stands_ev hN (w := w) (b := 0) (by decide)
  refine ⟨ts, s1, ?_⟩
  have s3 : ts 2 = 50 := s3
  have hT : townR (R_towns_s w ts) dTown dLaws 0 := ⟨⟨rfl, by decide⟩, s5 0 (by decide) (by decide) (by decide), fun l hl => absurd hl (by omega), fun k hk => ⟨⟨0, 0, rfl, rfl, by decide, by decide, fun q => absurd q (by decide)⟩, Or.inl ⟨by show (0 : Int32) ≤ 0; decide, (congrArg ts (by omega)).trans (s4 k hk)⟩⟩⟩
  have hB : barR (R_towns_s w ts) dTown 0 := ⟨(s5 1 (by decide) (by decide) (by decide)).symm, fun p l hp => absurd hp (by omega)⟩
  have hD : toldR dTown 0 := fun l hl => absurd hl (by omega)
  obtain ⟨st, t1, t2, t3⟩ := starts_ev hN (w := R_signed_s (R_towns_s w ts) (ts 2)) (v1 := dTown) (v2 := dLaws) (P := 0) (b := 0) (by omega) hT
  have t1' : f_R_starts N (R_signed_s (R_towns_s w ts) (ts (Int32.toNatClampNeg 2))) 0 = some st := t1
  obtain ⟨mk, m1, m2⟩ := mark_loop N (w := R_s_lines_state_undos_signed (R_towns_s w ts) (upd (R_lines w) (Int32.toNatClampNeg 0) 0) (upd st (Int32.toNatClampNeg 46) 0) 0 (ts (Int32.toNatClampNeg 2))) 4 0 N (R_isMarked w) rfl (by omega)
  have m1' : f_R_begins_L37 N N (R_s_lines_state_undos_signed (R_towns_s w ts) (upd (R_lines w) (Int32.toNatClampNeg 0) 0) (upd st (Int32.toNatClampNeg 46) 0) 0 (ts (Int32.toNatClampNeg 2))) 0 (R_isMarked w) = some mk := m1
  have hag : AGP 0 (startV dTown) dLives := ⟨fun l hl => absurd hl (by omega), rfl, rfl, rfl, rfl, fun _ l hl => absurd hl (by omega)⟩
  have hfl : f_R_findLots N (R_s_lines_state_undos_isMarked_signed (R_towns_s w ts) (upd (R_lines w) (Int32.toNatClampNeg 0) 0) (upd st (Int32.toNatClampNeg 46) 0) 0 mk (ts (Int32.toNatClampNeg 2))) = some (R_lotRows w, R_lotRow w, 0) := by
    unfold f_R_findLots
    refine bnd (people_ok (w := R_lotsMany_s (R_s_lines_state_undos_isMarked_signed (R_towns_s w ts) (upd (R_lines w) (Int32.toNatClampNeg 0) 0) (upd st (Int32.toNatClampNeg 46) 0) 0 mk (ts (Int32.toNatClampNeg 2))) 0) hT) ?_
    exact zifp (by decide) rfl
  unfold f_R_begins
  refine Ev.bnd t1' ?_
  refine Ev.letE ?_
  refine Ev.letE ?_
  refine Ev.bnd m1' ?_
  refine Ev.bnd hfl ?_
  refine Ev.ret ⟨⟨hT, hB, ⟨by decide, rfl, s3, s3⟩, hD, ⟨h2, fun k hk => absurd hk (by omega), fun j k hj => absurd hj (by omega)⟩, hW⟩, ⟨rfl, rfl, by decide, fun k hk => absurd hk (by omega)⟩, ⟨?_, ?_⟩, ⟨0, by omega, rfl, h1, fun k hk => absurd hk (by omega)⟩, ?_, ?_, ?_, ?_, ?_⟩
  · refine LR.ag ?_ hag
    refine LR.keep (by decide) t2 (fun j h1 h2 => ?_)
    exact pk_un (show j ≠ 46 by omega)
  · exact (LI_start (by decide) hD).ag hag
  · exact ⟨0, by omega, rfl, (pk_us : upd st 46 0 46 = 0), fun i hi => absurd hi (by omega)⟩
  · exact ⟨0, 0, by omega, by omega, rfl, rfl, rfl, fun i hi => absurd hi (by omega)⟩
  · intro i hi
    exact Or.inl ⟨rfl, (m2 i).1 (by omega) hi⟩
  · exact ⟨0, by omega, rfl, (pk_us : upd (R_lines w) 0 0 0 = 0), fun k hk => absurd hk (by omega)⟩
  · exact ⟨Or.inl rfl, Or.inl rfl, fun _ _ => rfl⟩
