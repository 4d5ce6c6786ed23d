/-! What the functions keep: the sizes, the ring, and that what comes of a bit time is 0 .. 7. -/
def o8 (v : Int32) : Prop := ∃ j : Nat, j < 8 ∧ v = nI j
theorem rem_len {w : sFr} {x : Int32} (h : w.k ≤ 4) : (f_Fr_remove w x).1.k ≤ 4 := by
  unfold f_Fr_remove
  split
  · exact h
  · split
    · exact h
    · show w.k - 1 ≤ 4; omega
theorem ok_No_keep (z : sNd) (x : Int32) (ok : okNd z) : okNd (f_No_keep z x) := ok_keep ok
theorem ok_No_beginToSend (z : sNd) (ok : okNd z) : okNd (f_No_beginToSend z) := ok_beginToSend ok
set_option maxHeartbeats 4000000 in
set_option maxRecDepth 100000 in
theorem ok_No_beginFlag (z : sNd) (x : Int32) (ok : okNd z) : okNd (f_No_beginFlag z x) := by
  unfold f_No_beginFlag
  exact (show okNd (sNd.mk 3 z.was z.se z.he z.lo z.ma z.va z.sp z.dr x 0 z.on z.ro z.w z.i z.d z.k z.r) from ⟨ok.1, ok.2.1, ok.2.2.1, ok.2.2.2⟩)
set_option maxHeartbeats 4000000 in
set_option maxRecDepth 100000 in
theorem ok_No_goOffIfTooMany (z : sNd) (ok : okNd z) : okNd (f_No_goOffIfTooMany z) := by
  unfold f_No_goOffIfTooMany
  by_cases h0 : z.se ≤ 255
  · rw [if_pos h0]
    exact ok
  · rw [if_neg h0]
    exact (show okNd (sNd.mk 7 z.was z.se z.he z.lo z.ma z.va z.sp z.dr z.pf z.ss 0 0 (⟨z.w.row, 0⟩ : sFr) z.i z.d z.k z.r) from ⟨Nat.zero_le 4, ok.2.1, ok.2.2.1, ok.2.2.2⟩)
set_option maxHeartbeats 4000000 in
set_option maxRecDepth 100000 in
theorem ok_No_beginPause (z : sNd) (ok : okNd z) : okNd (f_No_beginPause z) := by
  unfold f_No_beginPause
  exact (show okNd (sNd.mk 5 z.was z.se z.he z.lo z.ma z.va z.sp z.dr z.pf 0 z.on z.ro z.w z.i z.d z.k z.r) from ⟨ok.1, ok.2.1, ok.2.2.1, ok.2.2.2⟩)
set_option maxHeartbeats 4000000 in
set_option maxRecDepth 100000 in
theorem ok_No_overload (z : sNd) (ok : okNd z) : okNd (f_No_overload z).1 := by
  unfold f_No_overload
  exact (ok_No_beginFlag (sNd.mk z.st 0 z.se z.he z.lo z.ma z.va z.sp z.dr z.pf z.ss z.on z.ro z.w z.i z.d z.k z.r) 0 (show okNd (sNd.mk z.st 0 z.se z.he z.lo z.ma z.va z.sp z.dr z.pf z.ss z.on z.ro z.w z.i z.d z.k z.r) from ⟨ok.1, ok.2.1, ok.2.2.1, ok.2.2.2⟩))
set_option maxHeartbeats 4000000 in
set_option maxRecDepth 100000 in
theorem ok_No_countHeavily (z : sNd) (ok : okNd z) : okNd (f_No_countHeavily z) := by
  unfold f_No_countHeavily
  by_cases h0 : z.was = 1
  · rw [if_pos h0]
    exact (ok_No_goOffIfTooMany (sNd.mk z.st z.was (z.se + 8) z.he z.lo z.ma z.va z.sp z.dr z.pf z.ss z.on z.ro z.w z.i z.d z.k z.r)  (show okNd (sNd.mk z.st z.was (z.se + 8) z.he z.lo z.ma z.va z.sp z.dr z.pf z.ss z.on z.ro z.w z.i z.d z.k z.r) from ⟨ok.1, ok.2.1, ok.2.2.1, ok.2.2.2⟩))
  · rw [if_neg h0]
    by_cases h1 : z.was = 2
    · rw [if_pos h1]
      exact (ok_No_goOffIfTooMany (sNd.mk z.st z.was z.se (z.he + 8) z.lo z.ma z.va z.sp z.dr z.pf z.ss z.on z.ro z.w z.i z.d z.k z.r)  (show okNd (sNd.mk z.st z.was z.se (z.he + 8) z.lo z.ma z.va z.sp z.dr z.pf z.ss z.on z.ro z.w z.i z.d z.k z.r) from ⟨ok.1, ok.2.1, ok.2.2.1, ok.2.2.2⟩))
    · rw [if_neg h1]
      exact (ok_No_goOffIfTooMany z  ok)
set_option maxHeartbeats 4000000 in
set_option maxRecDepth 100000 in
theorem ok_No_beginToHear (z : sNd) (ok : okNd z) : okNd (f_No_beginToHear z).1 := by
  unfold f_No_beginToHear
  exact (show okNd (sNd.mk 2 2 z.se z.he z.lo z.ma z.va z.sp z.dr z.pf z.ss z.on z.ro z.w z.i z.d z.k (f_Re_read (f_Re_begin z.r) 0)) from ⟨ok.1, ok.2.1, ok.2.2.1, ok.2.2.2⟩)
set_option maxHeartbeats 4000000 in
set_option maxRecDepth 100000 in
theorem ok_No_drive_21 (z : sNd) (ok : okNd z) : okNd (f_No_drive_21 z).1 := by
  unfold f_No_drive_21
  exact (show okNd (sNd.mk z.st z.was z.se z.he z.lo z.ma z.va z.sp (f_No_levelToDrive z) z.pf z.ss z.on z.ro z.w z.i z.d z.k z.r) from ⟨ok.1, ok.2.1, ok.2.2.1, ok.2.2.2⟩)
set_option maxHeartbeats 4000000 in
set_option maxRecDepth 100000 in
theorem ok_No_drive (z : sNd) (ok : okNd z) : okNd (f_No_drive z).1 := by
  unfold f_No_drive
  by_cases h0 : z.st = 0
  · rw [if_pos h0]
    by_cases h1 : (nI z.w.k) ≤ 0
    · rw [if_pos h1]
      exact (ok_No_drive_21 z  ok)
    · rw [if_neg h1]
      exact (ok_No_drive_21 (f_No_beginToSend z)  (ok_No_beginToSend z  ok))
  · rw [if_neg h0]
    exact (ok_No_drive_21 z  ok)
set_option maxHeartbeats 4000000 in
set_option maxRecDepth 100000 in
theorem ok_No_err_55 (z : sNd) (v1 v2 : Int32) (ok : okNd z) : okNd (f_No_err_55 z v1 v2).1 := by
  unfold f_No_err_55
  by_cases h0 : v2 = 0
  · rw [if_pos h0]
    exact (ok_No_goOffIfTooMany (f_No_beginFlag z ((f_No_isPassive z)))  (ok_No_beginFlag z ((f_No_isPassive z)) ok))
  · rw [if_neg h0]
    exact (ok_No_goOffIfTooMany (f_No_beginFlag z ((f_No_isPassive z)))  (ok_No_beginFlag z ((f_No_isPassive z)) ok))
set_option maxHeartbeats 4000000 in
set_option maxRecDepth 100000 in
theorem ok_No_err_19 (z : sNd) (v1 v2 : Int32) (ok : okNd z) : okNd (f_No_err_19 z v1 v2).1 := by
  unfold f_No_err_19
  by_cases h0 : z.was = 2
  · rw [if_pos h0]
    exact (ok_No_err_55 (sNd.mk z.st z.was z.se (z.he + 1) z.lo z.ma z.va z.sp z.dr z.pf z.ss z.on z.ro z.w z.i z.d z.k z.r) v1 v2 (show okNd (sNd.mk z.st z.was z.se (z.he + 1) z.lo z.ma z.va z.sp z.dr z.pf z.ss z.on z.ro z.w z.i z.d z.k z.r) from ⟨ok.1, ok.2.1, ok.2.2.1, ok.2.2.2⟩))
  · rw [if_neg h0]
    by_cases h1 : v2 = 0
    · rw [if_pos h1]
      exact (ok_No_err_55 z v1 v2 ok)
    · rw [if_neg h1]
      exact (ok_No_err_55 (sNd.mk z.st z.was (z.se + 8) z.he z.lo z.ma z.va z.sp z.dr z.pf z.ss z.on z.ro z.w z.i z.d z.k z.r) v1 v2 (show okNd (sNd.mk z.st z.was (z.se + 8) z.he z.lo z.ma z.va z.sp z.dr z.pf z.ss z.on z.ro z.w z.i z.d z.k z.r) from ⟨ok.1, ok.2.1, ok.2.2.1, ok.2.2.2⟩))
set_option maxHeartbeats 4000000 in
set_option maxRecDepth 100000 in
theorem ok_No_err (z : sNd) (x : Int32) (ok : okNd z) : okNd (f_No_err z x).1 := by
  unfold f_No_err
  by_cases h0 : x = 6
  · rw [if_pos h0]
    by_cases h1 : ((f_No_isPassive z)) = 0
    · rw [if_pos h1]
      exact (ok_No_err_19 z x 1 ok)
    · rw [if_neg h1]
      exact (ok_No_err_19 z x 0 ok)
  · rw [if_neg h0]
    exact (ok_No_err_19 z x 1 ok)
set_option maxHeartbeats 4000000 in
set_option maxRecDepth 100000 in
theorem ok_No_endSending (z : sNd) (ok : okNd z) : okNd (f_No_endSending z).1 := by
  unfold f_No_endSending
  by_cases h0 : z.se ≤ 0
  · rw [if_pos h0]
    exact (ok_No_beginPause (sNd.mk z.st z.was z.se z.he z.lo z.ma z.va z.sp z.dr z.pf z.ss z.on z.ro (f_Fr_remove z.w z.sp).1 z.i z.d z.k z.r)  (show okNd (sNd.mk z.st z.was z.se z.he z.lo z.ma z.va z.sp z.dr z.pf z.ss z.on z.ro (f_Fr_remove z.w z.sp).1 z.i z.d z.k z.r) from ⟨rem_len ok.1, ok.2.1, ok.2.2.1, ok.2.2.2⟩))
  · rw [if_neg h0]
    exact (ok_No_beginPause (sNd.mk z.st z.was (z.se - 1) z.he z.lo z.ma z.va z.sp z.dr z.pf z.ss z.on z.ro (f_Fr_remove z.w z.sp).1 z.i z.d z.k z.r)  (show okNd (sNd.mk z.st z.was (z.se - 1) z.he z.lo z.ma z.va z.sp z.dr z.pf z.ss z.on z.ro (f_Fr_remove z.w z.sp).1 z.i z.d z.k z.r) from ⟨rem_len ok.1, ok.2.1, ok.2.2.1, ok.2.2.2⟩))
set_option maxHeartbeats 4000000 in
set_option maxRecDepth 100000 in
theorem ok_No_endHearing_52 (z : sNd) (v1 : Int32) (ok : okNd z) : okNd (f_No_endHearing_52 z v1).1 := by
  unfold f_No_endHearing_52
  by_cases h0 : v1 = 0
  · rw [if_pos h0]
    exact (ok_No_overload z  ok)
  · rw [if_neg h0]
    exact (ok_No_beginPause z  ok)
set_option maxHeartbeats 4000000 in
set_option maxRecDepth 100000 in
theorem ok_No_endHearing_22 (z : sNd) (v1 : Int32) (ok : okNd z) : okNd (f_No_endHearing_22 z v1).1 := by
  unfold f_No_endHearing_22
  by_cases h0 : (z.r.i &&& z.ma) = z.va
  · rw [if_pos h0]
    exact (ok_No_endHearing_52 (f_No_keep z ((f_Re_frame z.r))) v1 (ok_No_keep z ((f_Re_frame z.r)) ok))
  · rw [if_neg h0]
    exact (ok_No_endHearing_52 z v1 ok)
set_option maxHeartbeats 4000000 in
set_option maxRecDepth 100000 in
theorem ok_No_endHearing (z : sNd) (x : Int32) (ok : okNd z) : okNd (f_No_endHearing z x).1 := by
  unfold f_No_endHearing
  by_cases h0 : z.he ≤ 0
  · rw [if_pos h0]
    exact (ok_No_endHearing_22 z x ok)
  · rw [if_neg h0]
    exact (ok_No_endHearing_22 (sNd.mk z.st z.was z.se (f_Ma_min (z.he - 1) 127) z.lo z.ma z.va z.sp z.dr z.pf z.ss z.on z.ro z.w z.i z.d z.k z.r) x (show okNd (sNd.mk z.st z.was z.se (f_Ma_min (z.he - 1) 127) z.lo z.ma z.va z.sp z.dr z.pf z.ss z.on z.ro z.w z.i z.d z.k z.r) from ⟨ok.1, ok.2.1, ok.2.2.1, ok.2.2.2⟩))
set_option maxHeartbeats 4000000 in
set_option maxRecDepth 100000 in
theorem ok_No_seeSending_63 (z : sNd) (v1 : Int32) (ok : okNd z) : okNd (f_No_seeSending_63 z v1).1 := by
  unfold f_No_seeSending_63
  by_cases h0 : ((f_Re_isAtEnd (f_Re_read z.r v1))) = 0
  · rw [if_pos h0]
    exact (show okNd (sNd.mk z.st z.was z.se z.he z.lo z.ma z.va z.sp z.dr z.pf z.ss z.on z.ro z.w z.i z.d z.k (f_Re_read z.r v1)) from ⟨ok.1, ok.2.1, ok.2.2.1, ok.2.2.2⟩)
  · rw [if_neg h0]
    exact (ok_No_endSending (sNd.mk z.st z.was z.se z.he z.lo z.ma z.va z.sp z.dr z.pf z.ss z.on z.ro z.w z.i z.d z.k (f_Re_read z.r v1))  (show okNd (sNd.mk z.st z.was z.se z.he z.lo z.ma z.va z.sp z.dr z.pf z.ss z.on z.ro z.w z.i z.d z.k (f_Re_read z.r v1)) from ⟨ok.1, ok.2.1, ok.2.2.1, ok.2.2.2⟩))
set_option maxHeartbeats 4000000 in
set_option maxRecDepth 100000 in
theorem ok_No_seeSending (z : sNd) (x : Int32) (ok : okNd z) : okNd (f_No_seeSending z x).1 := by
  unfold f_No_seeSending
  by_cases h0 : ((f_Re_isAtAnswer z.r)) = 0
  · rw [if_pos h0]
    by_cases h1 : x = z.dr
    · rw [if_pos h1]
      exact (ok_No_seeSending_63 z x ok)
    · rw [if_neg h1]
      by_cases h2 : z.dr = 0
      · rw [if_pos h2]
        exact (ok_No_err z 2 ok)
      · rw [if_neg h2]
        by_cases h3 : ((f_Re_isInId z.r)) = 0
        · rw [if_pos h3]
          exact (ok_No_err z 2 ok)
        · rw [if_neg h3]
          exact (ok_No_seeSending_63 (sNd.mk 2 2 z.se z.he z.lo z.ma z.va z.sp z.dr z.pf z.ss z.on z.ro z.w z.i z.d z.k z.r) x (show okNd (sNd.mk 2 2 z.se z.he z.lo z.ma z.va z.sp z.dr z.pf z.ss z.on z.ro z.w z.i z.d z.k z.r) from ⟨ok.1, ok.2.1, ok.2.2.1, ok.2.2.2⟩))
  · rw [if_neg h0]
    by_cases h1 : x = 1
    · rw [if_pos h1]
      exact (ok_No_err z 6 ok)
    · rw [if_neg h1]
      exact (ok_No_seeSending_63 z x ok)
set_option maxHeartbeats 4000000 in
set_option maxRecDepth 100000 in
theorem ok_No_seeHearing (z : sNd) (x : Int32) (ok : okNd z) : okNd (f_No_seeHearing z x).1 := by
  unfold f_No_seeHearing
  by_cases h0 : ((f_Re_errorOf z.r x)) = 0
  · rw [if_pos h0]
    by_cases h1 : ((f_Re_isAtEnd (f_Re_read z.r x))) = 0
    · rw [if_pos h1]
      exact (show okNd (sNd.mk z.st z.was z.se z.he z.lo z.ma z.va z.sp z.dr z.pf z.ss z.on z.ro z.w z.i z.d z.k (f_Re_read z.r x)) from ⟨ok.1, ok.2.1, ok.2.2.1, ok.2.2.2⟩)
    · rw [if_neg h1]
      exact (ok_No_endHearing (sNd.mk z.st z.was z.se z.he z.lo z.ma z.va z.sp z.dr z.pf z.ss z.on z.ro z.w z.i z.d z.k (f_Re_read z.r x)) x (show okNd (sNd.mk z.st z.was z.se z.he z.lo z.ma z.va z.sp z.dr z.pf z.ss z.on z.ro z.w z.i z.d z.k (f_Re_read z.r x)) from ⟨ok.1, ok.2.1, ok.2.2.1, ok.2.2.2⟩))
  · rw [if_neg h0]
    exact (ok_No_err z ((f_Re_errorOf z.r x)) ok)
set_option maxHeartbeats 4000000 in
set_option maxRecDepth 100000 in
theorem ok_No_seeInFlag (z : sNd) (x : Int32) (ok : okNd z) : okNd (f_No_seeInFlag z x).1 := by
  unfold f_No_seeInFlag
  by_cases h0 : (z.ss + 1) < 6
  · rw [if_pos h0]
    by_cases h1 : z.dr = 0
    · rw [if_pos h1]
      by_cases h2 : x = 1
      · rw [if_pos h2]
        exact (ok_No_countHeavily (sNd.mk z.st z.was z.se z.he z.lo z.ma z.va z.sp z.dr z.pf (z.ss + 1) z.on z.ro z.w z.i z.d z.k z.r)  (show okNd (sNd.mk z.st z.was z.se z.he z.lo z.ma z.va z.sp z.dr z.pf (z.ss + 1) z.on z.ro z.w z.i z.d z.k z.r) from ⟨ok.1, ok.2.1, ok.2.2.1, ok.2.2.2⟩))
      · rw [if_neg h2]
        exact (show okNd (sNd.mk z.st z.was z.se z.he z.lo z.ma z.va z.sp z.dr z.pf (z.ss + 1) z.on z.ro z.w z.i z.d z.k z.r) from ⟨ok.1, ok.2.1, ok.2.2.1, ok.2.2.2⟩)
    · rw [if_neg h1]
      exact (show okNd (sNd.mk z.st z.was z.se z.he z.lo z.ma z.va z.sp z.dr z.pf (z.ss + 1) z.on z.ro z.w z.i z.d z.k z.r) from ⟨ok.1, ok.2.1, ok.2.2.1, ok.2.2.2⟩)
  · rw [if_neg h0]
    by_cases h1 : z.dr = 0
    · rw [if_pos h1]
      by_cases h2 : x = 1
      · rw [if_pos h2]
        exact (ok_No_countHeavily (sNd.mk 4 z.was z.se z.he z.lo z.ma z.va z.sp z.dr z.pf 0 0 z.ro z.w z.i z.d z.k z.r)  (show okNd (sNd.mk 4 z.was z.se z.he z.lo z.ma z.va z.sp z.dr z.pf 0 0 z.ro z.w z.i z.d z.k z.r) from ⟨ok.1, ok.2.1, ok.2.2.1, ok.2.2.2⟩))
      · rw [if_neg h2]
        exact (show okNd (sNd.mk 4 z.was z.se z.he z.lo z.ma z.va z.sp z.dr z.pf 0 0 z.ro z.w z.i z.d z.k z.r) from ⟨ok.1, ok.2.1, ok.2.2.1, ok.2.2.2⟩)
    · rw [if_neg h1]
      exact (show okNd (sNd.mk 4 z.was z.se z.he z.lo z.ma z.va z.sp z.dr z.pf 0 0 z.ro z.w z.i z.d z.k z.r) from ⟨ok.1, ok.2.1, ok.2.2.1, ok.2.2.2⟩)
set_option maxHeartbeats 4000000 in
set_option maxRecDepth 100000 in
theorem ok_No_seeAfter (z : sNd) (x : Int32) (ok : okNd z) : okNd (f_No_seeAfter z x).1 := by
  unfold f_No_seeAfter
  by_cases h0 : x = 1
  · rw [if_pos h0]
    by_cases h1 : (z.on + 1) < 8
    · rw [if_pos h1]
      exact (show okNd (sNd.mk z.st z.was z.se z.he z.lo z.ma z.va z.sp z.dr z.pf z.ss (z.on + 1) z.ro z.w z.i z.d z.k z.r) from ⟨ok.1, ok.2.1, ok.2.2.1, ok.2.2.2⟩)
    · rw [if_neg h1]
      exact (ok_No_beginPause (sNd.mk z.st z.was z.se z.he z.lo z.ma z.va z.sp z.dr z.pf z.ss (z.on + 1) z.ro z.w z.i z.d z.k z.r)  (show okNd (sNd.mk z.st z.was z.se z.he z.lo z.ma z.va z.sp z.dr z.pf z.ss (z.on + 1) z.ro z.w z.i z.d z.k z.r) from ⟨ok.1, ok.2.1, ok.2.2.1, ok.2.2.2⟩))
  · rw [if_neg h0]
    by_cases h1 : z.on ≤ 0
    · rw [if_pos h1]
      by_cases h2 : (z.ss + 1) = 1
      · rw [if_pos h2]
        by_cases h3 : z.was = 2
        · rw [if_pos h3]
          by_cases h4 : ((z.ss + 1) - (z.ss + 1) / 8 * 8) = 0
          · rw [if_pos h4]
            exact (ok_No_countHeavily (sNd.mk z.st z.was z.se (z.he + 8) z.lo z.ma z.va z.sp z.dr z.pf (z.ss + 1) z.on z.ro z.w z.i z.d z.k z.r)  (show okNd (sNd.mk z.st z.was z.se (z.he + 8) z.lo z.ma z.va z.sp z.dr z.pf (z.ss + 1) z.on z.ro z.w z.i z.d z.k z.r) from ⟨ok.1, ok.2.1, ok.2.2.1, ok.2.2.2⟩))
          · rw [if_neg h4]
            exact (show okNd (sNd.mk z.st z.was z.se (z.he + 8) z.lo z.ma z.va z.sp z.dr z.pf (z.ss + 1) z.on z.ro z.w z.i z.d z.k z.r) from ⟨ok.1, ok.2.1, ok.2.2.1, ok.2.2.2⟩)
        · rw [if_neg h3]
          by_cases h4 : ((z.ss + 1) - (z.ss + 1) / 8 * 8) = 0
          · rw [if_pos h4]
            exact (ok_No_countHeavily (sNd.mk z.st z.was z.se z.he z.lo z.ma z.va z.sp z.dr z.pf (z.ss + 1) z.on z.ro z.w z.i z.d z.k z.r)  (show okNd (sNd.mk z.st z.was z.se z.he z.lo z.ma z.va z.sp z.dr z.pf (z.ss + 1) z.on z.ro z.w z.i z.d z.k z.r) from ⟨ok.1, ok.2.1, ok.2.2.1, ok.2.2.2⟩))
          · rw [if_neg h4]
            exact (show okNd (sNd.mk z.st z.was z.se z.he z.lo z.ma z.va z.sp z.dr z.pf (z.ss + 1) z.on z.ro z.w z.i z.d z.k z.r) from ⟨ok.1, ok.2.1, ok.2.2.1, ok.2.2.2⟩)
      · rw [if_neg h2]
        by_cases h3 : ((z.ss + 1) - (z.ss + 1) / 8 * 8) = 0
        · rw [if_pos h3]
          exact (ok_No_countHeavily (sNd.mk z.st z.was z.se z.he z.lo z.ma z.va z.sp z.dr z.pf (z.ss + 1) z.on z.ro z.w z.i z.d z.k z.r)  (show okNd (sNd.mk z.st z.was z.se z.he z.lo z.ma z.va z.sp z.dr z.pf (z.ss + 1) z.on z.ro z.w z.i z.d z.k z.r) from ⟨ok.1, ok.2.1, ok.2.2.1, ok.2.2.2⟩))
        · rw [if_neg h3]
          exact (show okNd (sNd.mk z.st z.was z.se z.he z.lo z.ma z.va z.sp z.dr z.pf (z.ss + 1) z.on z.ro z.w z.i z.d z.k z.r) from ⟨ok.1, ok.2.1, ok.2.2.1, ok.2.2.2⟩)
    · rw [if_neg h1]
      by_cases h2 : z.was = 0
      · rw [if_pos h2]
        exact (ok_No_overload z  ok)
      · rw [if_neg h2]
        exact (ok_No_err z 4 ok)
set_option maxHeartbeats 4000000 in
set_option maxRecDepth 100000 in
theorem ok_No_seeInPause (z : sNd) (x : Int32) (ok : okNd z) : okNd (f_No_seeInPause z x).1 := by
  unfold f_No_seeInPause
  by_cases h0 : x = 0
  · rw [if_pos h0]
    by_cases h1 : 3 ≤ (z.ss + 1)
    · rw [if_pos h1]
      exact (ok_No_beginToHear (sNd.mk z.st z.was z.se z.he z.lo z.ma z.va z.sp z.dr z.pf (z.ss + 1) z.on z.ro z.w z.i z.d z.k z.r)  (show okNd (sNd.mk z.st z.was z.se z.he z.lo z.ma z.va z.sp z.dr z.pf (z.ss + 1) z.on z.ro z.w z.i z.d z.k z.r) from ⟨ok.1, ok.2.1, ok.2.2.1, ok.2.2.2⟩))
    · rw [if_neg h1]
      exact (ok_No_overload (sNd.mk z.st z.was z.se z.he z.lo z.ma z.va z.sp z.dr z.pf (z.ss + 1) z.on z.ro z.w z.i z.d z.k z.r)  (show okNd (sNd.mk z.st z.was z.se z.he z.lo z.ma z.va z.sp z.dr z.pf (z.ss + 1) z.on z.ro z.w z.i z.d z.k z.r) from ⟨ok.1, ok.2.1, ok.2.2.1, ok.2.2.2⟩))
  · rw [if_neg h0]
    by_cases h1 : (z.ss + 1) < 3
    · rw [if_pos h1]
      exact (show okNd (sNd.mk z.st z.was z.se z.he z.lo z.ma z.va z.sp z.dr z.pf (z.ss + 1) z.on z.ro z.w z.i z.d z.k z.r) from ⟨ok.1, ok.2.1, ok.2.2.1, ok.2.2.2⟩)
    · rw [if_neg h1]
      by_cases h2 : ((f_No_isPassive (sNd.mk z.st z.was z.se z.he z.lo z.ma z.va z.sp z.dr z.pf (z.ss + 1) z.on z.ro z.w z.i z.d z.k z.r))) = 0
      · rw [if_pos h2]
        exact (show okNd (sNd.mk 0 z.was z.se z.he z.lo z.ma z.va z.sp z.dr z.pf (z.ss + 1) 0 z.ro z.w z.i z.d z.k z.r) from ⟨ok.1, ok.2.1, ok.2.2.1, ok.2.2.2⟩)
      · rw [if_neg h2]
        by_cases h3 : z.was = 1
        · rw [if_pos h3]
          exact (show okNd (sNd.mk 6 z.was z.se z.he z.lo z.ma z.va z.sp z.dr z.pf (z.ss + 1) 0 z.ro z.w z.i z.d z.k z.r) from ⟨ok.1, ok.2.1, ok.2.2.1, ok.2.2.2⟩)
        · rw [if_neg h3]
          exact (show okNd (sNd.mk 0 z.was z.se z.he z.lo z.ma z.va z.sp z.dr z.pf (z.ss + 1) 0 z.ro z.w z.i z.d z.k z.r) from ⟨ok.1, ok.2.1, ok.2.2.1, ok.2.2.2⟩)
set_option maxHeartbeats 4000000 in
set_option maxRecDepth 100000 in
theorem ok_No_seeSuspended (z : sNd) (x : Int32) (ok : okNd z) : okNd (f_No_seeSuspended z x).1 := by
  unfold f_No_seeSuspended
  by_cases h0 : x = 0
  · rw [if_pos h0]
    exact (ok_No_beginToHear z  ok)
  · rw [if_neg h0]
    by_cases h1 : (z.on + 1) < 8
    · rw [if_pos h1]
      exact (show okNd (sNd.mk z.st z.was z.se z.he z.lo z.ma z.va z.sp z.dr z.pf z.ss (z.on + 1) z.ro z.w z.i z.d z.k z.r) from ⟨ok.1, ok.2.1, ok.2.2.1, ok.2.2.2⟩)
    · rw [if_neg h1]
      exact (show okNd (sNd.mk 0 z.was z.se z.he z.lo z.ma z.va z.sp z.dr z.pf z.ss (z.on + 1) z.ro z.w z.i z.d z.k z.r) from ⟨ok.1, ok.2.1, ok.2.2.1, ok.2.2.2⟩)
set_option maxHeartbeats 4000000 in
set_option maxRecDepth 100000 in
theorem ok_No_seeOff (z : sNd) (x : Int32) (ok : okNd z) : okNd (f_No_seeOff z x).1 := by
  unfold f_No_seeOff
  by_cases h0 : x = 1
  · rw [if_pos h0]
    by_cases h1 : (z.on + 1) < 11
    · rw [if_pos h1]
      by_cases h2 : z.ro < 8
      · rw [if_pos h2]
        exact (show okNd (sNd.mk z.st z.was z.se z.he z.lo z.ma z.va z.sp z.dr z.pf z.ss (z.on + 1) z.ro z.w z.i z.d z.k z.r) from ⟨ok.1, ok.2.1, ok.2.2.1, ok.2.2.2⟩)
      · rw [if_neg h2]
        exact (show okNd (sNd.mk 0 z.was 0 0 z.lo z.ma z.va z.sp z.dr z.pf z.ss (z.on + 1) z.ro z.w z.i z.d z.k z.r) from ⟨ok.1, ok.2.1, ok.2.2.1, ok.2.2.2⟩)
    · rw [if_neg h1]
      by_cases h2 : (z.ro + 1) < 8
      · rw [if_pos h2]
        exact (show okNd (sNd.mk z.st z.was z.se z.he z.lo z.ma z.va z.sp z.dr z.pf z.ss 0 (z.ro + 1) z.w z.i z.d z.k z.r) from ⟨ok.1, ok.2.1, ok.2.2.1, ok.2.2.2⟩)
      · rw [if_neg h2]
        exact (show okNd (sNd.mk 0 z.was 0 0 z.lo z.ma z.va z.sp z.dr z.pf z.ss 0 (z.ro + 1) z.w z.i z.d z.k z.r) from ⟨ok.1, ok.2.1, ok.2.2.1, ok.2.2.2⟩)
  · rw [if_neg h0]
    by_cases h1 : z.ro < 8
    · rw [if_pos h1]
      exact (show okNd (sNd.mk z.st z.was z.se z.he z.lo z.ma z.va z.sp z.dr z.pf z.ss 0 z.ro z.w z.i z.d z.k z.r) from ⟨ok.1, ok.2.1, ok.2.2.1, ok.2.2.2⟩)
    · rw [if_neg h1]
      exact (show okNd (sNd.mk 0 z.was 0 0 z.lo z.ma z.va z.sp z.dr z.pf z.ss 0 z.ro z.w z.i z.d z.k z.r) from ⟨ok.1, ok.2.1, ok.2.2.1, ok.2.2.2⟩)
set_option maxHeartbeats 4000000 in
set_option maxRecDepth 100000 in
theorem ok_No_see_18 (z : sNd) (v2 : Int32) (ok : okNd z) : okNd (f_No_see_18 z v2).1 := by
  unfold f_No_see_18
  by_cases h0 : z.st = 1
  · rw [if_pos h0]
    exact (ok_No_seeSending z v2 ok)
  · rw [if_neg h0]
    by_cases h1 : z.st = 2
    · rw [if_pos h1]
      exact (ok_No_seeHearing z v2 ok)
    · rw [if_neg h1]
      by_cases h2 : z.st = 3
      · rw [if_pos h2]
        exact (ok_No_seeInFlag z v2 ok)
      · rw [if_neg h2]
        by_cases h3 : z.st = 4
        · rw [if_pos h3]
          exact (ok_No_seeAfter z v2 ok)
        · rw [if_neg h3]
          by_cases h4 : z.st = 5
          · rw [if_pos h4]
            exact (ok_No_seeInPause z v2 ok)
          · rw [if_neg h4]
            by_cases h5 : z.st = 6
            · rw [if_pos h5]
              exact (ok_No_seeSuspended z v2 ok)
            · rw [if_neg h5]
              by_cases h6 : z.st = 7
              · rw [if_pos h6]
                exact (ok_No_seeOff z v2 ok)
              · rw [if_neg h6]
                by_cases h7 : v2 = 0
                · rw [if_pos h7]
                  exact (ok_No_beginToHear z  ok)
                · rw [if_neg h7]
                  exact ok
set_option maxHeartbeats 4000000 in
set_option maxRecDepth 100000 in
theorem ok_No_see (z : sNd) (x : Int32) (ok : okNd z) : okNd (f_No_see z x).1 := by
  unfold f_No_see
  by_cases h0 : ((f_Di_next z.d).2) = 0
  · rw [if_pos h0]
    exact (ok_No_see_18 (sNd.mk z.st z.was z.se z.he z.lo z.ma z.va z.sp z.dr z.pf z.ss z.on z.ro z.w z.i (f_Di_next z.d).1 z.k z.r) x (show okNd (sNd.mk z.st z.was z.se z.he z.lo z.ma z.va z.sp z.dr z.pf z.ss z.on z.ro z.w z.i (f_Di_next z.d).1 z.k z.r) from ⟨ok.1, ok.2.1, okDi_next ok.2.2.1, ok.2.2.2⟩))
  · rw [if_neg h0]
    exact (ok_No_see_18 (sNd.mk z.st z.was z.se z.he z.lo z.ma z.va z.sp z.dr z.pf z.ss z.on z.ro z.w z.i (f_Di_next z.d).1 z.k z.r) (1 - x) (show okNd (sNd.mk z.st z.was z.se z.he z.lo z.ma z.va z.sp z.dr z.pf z.ss z.on z.ro z.w z.i (f_Di_next z.d).1 z.k z.r) from ⟨ok.1, ok.2.1, okDi_next ok.2.2.1, ok.2.2.2⟩))
set_option maxHeartbeats 4000000 in
set_option maxRecDepth 100000 in
theorem o8_Re_errorBehindCore (r : sRe) (x y : Int32) : o8 (f_Re_errorBehindCore r x y) := by
  unfold f_Re_errorBehindCore
  by_cases h0 : x = 2
  · rw [if_pos h0]
    by_cases h1 : (f_Re_isRight r) = 0
    · rw [if_pos h1]
      exact ⟨5, by decide, rfl⟩
    · rw [if_neg h1]
      by_cases h2 : x = 1
      · rw [if_pos h2]
        by_cases h3 : y = 0
        · rw [if_pos h3]
          exact ⟨0, by decide, rfl⟩
        · rw [if_neg h3]
          exact ⟨0, by decide, rfl⟩
      · rw [if_neg h2]
        by_cases h3 : x < 9
        · rw [if_pos h3]
          by_cases h4 : y = 0
          · rw [if_pos h4]
            exact ⟨4, by decide, rfl⟩
          · rw [if_neg h4]
            exact ⟨0, by decide, rfl⟩
        · rw [if_neg h3]
          by_cases h4 : y = 0
          · rw [if_pos h4]
            exact ⟨0, by decide, rfl⟩
          · rw [if_neg h4]
            exact ⟨0, by decide, rfl⟩
  · rw [if_neg h0]
    by_cases h1 : x = 1
    · rw [if_pos h1]
      by_cases h2 : y = 0
      · rw [if_pos h2]
        exact ⟨0, by decide, rfl⟩
      · rw [if_neg h2]
        exact ⟨0, by decide, rfl⟩
    · rw [if_neg h1]
      by_cases h2 : x < 9
      · rw [if_pos h2]
        by_cases h3 : y = 0
        · rw [if_pos h3]
          exact ⟨4, by decide, rfl⟩
        · rw [if_neg h3]
          exact ⟨0, by decide, rfl⟩
      · rw [if_neg h2]
        by_cases h3 : y = 0
        · rw [if_pos h3]
          exact ⟨0, by decide, rfl⟩
        · rw [if_neg h3]
          exact ⟨0, by decide, rfl⟩
set_option maxHeartbeats 4000000 in
set_option maxRecDepth 100000 in
theorem o8_Re_errorOf (r : sRe) (x : Int32) : o8 (f_Re_errorOf r x) := by
  unfold f_Re_errorOf
  by_cases h0 : (f_Re_padIsDue r) = 0
  · rw [if_pos h0]
    by_cases h1 : (f_Re_isBehindCore r) = 0
    · rw [if_pos h1]
      by_cases h2 : r.p < 12
      · rw [if_pos h2]
        by_cases h3 : r.p = 18
        · rw [if_pos h3]
          by_cases h4 : ((r.b <<< (1 &&& 31)) ||| x) ≤ 2
          · rw [if_pos h4]
            exact ⟨0, by decide, rfl⟩
          · rw [if_neg h4]
            exact ⟨4, by decide, rfl⟩
        · rw [if_neg h3]
          exact ⟨0, by decide, rfl⟩
      · rw [if_neg h2]
        by_cases h3 : 15 ≤ r.p
        · rw [if_pos h3]
          by_cases h4 : r.p = 18
          · rw [if_pos h4]
            by_cases h5 : ((r.b <<< (1 &&& 31)) ||| x) ≤ 2
            · rw [if_pos h5]
              exact ⟨0, by decide, rfl⟩
            · rw [if_neg h5]
              exact ⟨4, by decide, rfl⟩
          · rw [if_neg h4]
            exact ⟨0, by decide, rfl⟩
        · rw [if_neg h3]
          by_cases h4 : x = 0
          · rw [if_pos h4]
            by_cases h5 : r.p = 18
            · rw [if_pos h5]
              by_cases h6 : ((r.b <<< (1 &&& 31)) ||| x) ≤ 2
              · rw [if_pos h6]
                exact ⟨0, by decide, rfl⟩
              · rw [if_neg h6]
                exact ⟨4, by decide, rfl⟩
            · rw [if_neg h5]
              exact ⟨0, by decide, rfl⟩
          · rw [if_neg h4]
            by_cases h5 : r.p = 18
            · rw [if_pos h5]
              by_cases h6 : ((r.b <<< (1 &&& 31)) ||| x) ≤ 2
              · rw [if_pos h6]
                exact ⟨4, by decide, rfl⟩
              · rw [if_neg h6]
                exact ⟨4, by decide, rfl⟩
            · rw [if_neg h5]
              exact ⟨4, by decide, rfl⟩
    · rw [if_neg h1]
      exact (o8_Re_errorBehindCore _ _ _)
  · rw [if_neg h0]
    by_cases h1 : x = r.l
    · rw [if_pos h1]
      exact ⟨3, by decide, rfl⟩
    · rw [if_neg h1]
      exact ⟨0, by decide, rfl⟩
set_option maxHeartbeats 4000000 in
set_option maxRecDepth 100000 in
theorem o8_No_err_55 (z : sNd) (v1 v2 : Int32) (hx : o8 v1) : o8 (f_No_err_55 z v1 v2).2 := by
  unfold f_No_err_55
  by_cases h0 : v2 = 0
  · rw [if_pos h0]
    exact ⟨0, by decide, rfl⟩
  · rw [if_neg h0]
    exact hx
set_option maxHeartbeats 4000000 in
set_option maxRecDepth 100000 in
theorem o8_No_err_19 (z : sNd) (v1 v2 : Int32) (hx : o8 v1) : o8 (f_No_err_19 z v1 v2).2 := by
  unfold f_No_err_19
  by_cases h0 : z.was = 2
  · rw [if_pos h0]
    exact (o8_No_err_55 _ v1 v2 hx)
  · rw [if_neg h0]
    by_cases h1 : v2 = 0
    · rw [if_pos h1]
      exact (o8_No_err_55 _ v1 v2 hx)
    · rw [if_neg h1]
      exact (o8_No_err_55 _ v1 v2 hx)
set_option maxHeartbeats 4000000 in
set_option maxRecDepth 100000 in
theorem o8_No_err (z : sNd) (x : Int32) (hx : o8 x) : o8 (f_No_err z x).2 := by
  unfold f_No_err
  by_cases h0 : x = 6
  · rw [if_pos h0]
    by_cases h1 : ((f_No_isPassive z)) = 0
    · rw [if_pos h1]
      exact (o8_No_err_19 _ x 1 hx)
    · rw [if_neg h1]
      exact (o8_No_err_19 _ x 0 hx)
  · rw [if_neg h0]
    exact (o8_No_err_19 _ x 1 hx)
set_option maxHeartbeats 4000000 in
set_option maxRecDepth 100000 in
theorem o8_No_endSending (z : sNd) : o8 (f_No_endSending z).2 := by
  unfold f_No_endSending
  by_cases h0 : z.se ≤ 0
  · rw [if_pos h0]
    exact ⟨1, by decide, rfl⟩
  · rw [if_neg h0]
    exact ⟨1, by decide, rfl⟩
set_option maxHeartbeats 4000000 in
set_option maxRecDepth 100000 in
theorem o8_No_endHearing_52 (z : sNd) (v1 : Int32) : o8 (f_No_endHearing_52 z v1).2 := by
  unfold f_No_endHearing_52
  by_cases h0 : v1 = 0
  · rw [if_pos h0]
    exact ⟨7, by decide, rfl⟩
  · rw [if_neg h0]
    exact ⟨0, by decide, rfl⟩
set_option maxHeartbeats 4000000 in
set_option maxRecDepth 100000 in
theorem o8_No_endHearing_22 (z : sNd) (v1 : Int32) : o8 (f_No_endHearing_22 z v1).2 := by
  unfold f_No_endHearing_22
  by_cases h0 : (z.r.i &&& z.ma) = z.va
  · rw [if_pos h0]
    exact (o8_No_endHearing_52 _ _)
  · rw [if_neg h0]
    exact (o8_No_endHearing_52 _ _)
set_option maxHeartbeats 4000000 in
set_option maxRecDepth 100000 in
theorem o8_No_endHearing (z : sNd) (x : Int32) : o8 (f_No_endHearing z x).2 := by
  unfold f_No_endHearing
  by_cases h0 : z.he ≤ 0
  · rw [if_pos h0]
    exact (o8_No_endHearing_22 _ _)
  · rw [if_neg h0]
    exact (o8_No_endHearing_22 _ _)
set_option maxHeartbeats 4000000 in
set_option maxRecDepth 100000 in
theorem o8_No_seeSending_63 (z : sNd) (v1 : Int32) : o8 (f_No_seeSending_63 z v1).2 := by
  unfold f_No_seeSending_63
  by_cases h0 : ((f_Re_isAtEnd (f_Re_read z.r v1))) = 0
  · rw [if_pos h0]
    exact ⟨0, by decide, rfl⟩
  · rw [if_neg h0]
    exact (o8_No_endSending _)
set_option maxHeartbeats 4000000 in
set_option maxRecDepth 100000 in
theorem o8_No_seeSending (z : sNd) (x : Int32) : o8 (f_No_seeSending z x).2 := by
  unfold f_No_seeSending
  by_cases h0 : ((f_Re_isAtAnswer z.r)) = 0
  · rw [if_pos h0]
    by_cases h1 : x = z.dr
    · rw [if_pos h1]
      exact (o8_No_seeSending_63 _ _)
    · rw [if_neg h1]
      by_cases h2 : z.dr = 0
      · rw [if_pos h2]
        exact (o8_No_err _ 2 ⟨2, by decide, rfl⟩)
      · rw [if_neg h2]
        by_cases h3 : ((f_Re_isInId z.r)) = 0
        · rw [if_pos h3]
          exact (o8_No_err _ 2 ⟨2, by decide, rfl⟩)
        · rw [if_neg h3]
          exact (o8_No_seeSending_63 _ _)
  · rw [if_neg h0]
    by_cases h1 : x = 1
    · rw [if_pos h1]
      exact (o8_No_err _ 6 ⟨6, by decide, rfl⟩)
    · rw [if_neg h1]
      exact (o8_No_seeSending_63 _ _)
set_option maxHeartbeats 4000000 in
set_option maxRecDepth 100000 in
theorem o8_No_seeHearing (z : sNd) (x : Int32) : o8 (f_No_seeHearing z x).2 := by
  unfold f_No_seeHearing
  by_cases h0 : ((f_Re_errorOf z.r x)) = 0
  · rw [if_pos h0]
    by_cases h1 : ((f_Re_isAtEnd (f_Re_read z.r x))) = 0
    · rw [if_pos h1]
      exact ⟨0, by decide, rfl⟩
    · rw [if_neg h1]
      exact (o8_No_endHearing _ _)
  · rw [if_neg h0]
    exact (o8_No_err _ ((f_Re_errorOf z.r x)) (o8_Re_errorOf _ _))
set_option maxHeartbeats 4000000 in
set_option maxRecDepth 100000 in
theorem o8_No_seeInFlag (z : sNd) (x : Int32) : o8 (f_No_seeInFlag z x).2 := by
  unfold f_No_seeInFlag
  by_cases h0 : (z.ss + 1) < 6
  · rw [if_pos h0]
    by_cases h1 : z.dr = 0
    · rw [if_pos h1]
      by_cases h2 : x = 1
      · rw [if_pos h2]
        exact ⟨0, by decide, rfl⟩
      · rw [if_neg h2]
        exact ⟨0, by decide, rfl⟩
    · rw [if_neg h1]
      exact ⟨0, by decide, rfl⟩
  · rw [if_neg h0]
    by_cases h1 : z.dr = 0
    · rw [if_pos h1]
      by_cases h2 : x = 1
      · rw [if_pos h2]
        exact ⟨0, by decide, rfl⟩
      · rw [if_neg h2]
        exact ⟨0, by decide, rfl⟩
    · rw [if_neg h1]
      exact ⟨0, by decide, rfl⟩
set_option maxHeartbeats 4000000 in
set_option maxRecDepth 100000 in
theorem o8_No_seeAfter (z : sNd) (x : Int32) : o8 (f_No_seeAfter z x).2 := by
  unfold f_No_seeAfter
  by_cases h0 : x = 1
  · rw [if_pos h0]
    by_cases h1 : (z.on + 1) < 8
    · rw [if_pos h1]
      exact ⟨0, by decide, rfl⟩
    · rw [if_neg h1]
      exact ⟨0, by decide, rfl⟩
  · rw [if_neg h0]
    by_cases h1 : z.on ≤ 0
    · rw [if_pos h1]
      by_cases h2 : (z.ss + 1) = 1
      · rw [if_pos h2]
        by_cases h3 : z.was = 2
        · rw [if_pos h3]
          by_cases h4 : ((z.ss + 1) - (z.ss + 1) / 8 * 8) = 0
          · rw [if_pos h4]
            exact ⟨0, by decide, rfl⟩
          · rw [if_neg h4]
            exact ⟨0, by decide, rfl⟩
        · rw [if_neg h3]
          by_cases h4 : ((z.ss + 1) - (z.ss + 1) / 8 * 8) = 0
          · rw [if_pos h4]
            exact ⟨0, by decide, rfl⟩
          · rw [if_neg h4]
            exact ⟨0, by decide, rfl⟩
      · rw [if_neg h2]
        by_cases h3 : ((z.ss + 1) - (z.ss + 1) / 8 * 8) = 0
        · rw [if_pos h3]
          exact ⟨0, by decide, rfl⟩
        · rw [if_neg h3]
          exact ⟨0, by decide, rfl⟩
    · rw [if_neg h1]
      by_cases h2 : z.was = 0
      · rw [if_pos h2]
        exact ⟨7, by decide, rfl⟩
      · rw [if_neg h2]
        exact (o8_No_err _ 4 ⟨4, by decide, rfl⟩)
set_option maxHeartbeats 4000000 in
set_option maxRecDepth 100000 in
theorem o8_No_seeInPause (z : sNd) (x : Int32) : o8 (f_No_seeInPause z x).2 := by
  unfold f_No_seeInPause
  by_cases h0 : x = 0
  · rw [if_pos h0]
    by_cases h1 : 3 ≤ (z.ss + 1)
    · rw [if_pos h1]
      exact ⟨0, by decide, rfl⟩
    · rw [if_neg h1]
      exact ⟨7, by decide, rfl⟩
  · rw [if_neg h0]
    by_cases h1 : (z.ss + 1) < 3
    · rw [if_pos h1]
      exact ⟨0, by decide, rfl⟩
    · rw [if_neg h1]
      by_cases h2 : ((f_No_isPassive (sNd.mk z.st z.was z.se z.he z.lo z.ma z.va z.sp z.dr z.pf (z.ss + 1) z.on z.ro z.w z.i z.d z.k z.r))) = 0
      · rw [if_pos h2]
        exact ⟨0, by decide, rfl⟩
      · rw [if_neg h2]
        by_cases h3 : z.was = 1
        · rw [if_pos h3]
          exact ⟨0, by decide, rfl⟩
        · rw [if_neg h3]
          exact ⟨0, by decide, rfl⟩
set_option maxHeartbeats 4000000 in
set_option maxRecDepth 100000 in
theorem o8_No_seeSuspended (z : sNd) (x : Int32) : o8 (f_No_seeSuspended z x).2 := by
  unfold f_No_seeSuspended
  by_cases h0 : x = 0
  · rw [if_pos h0]
    exact ⟨0, by decide, rfl⟩
  · rw [if_neg h0]
    by_cases h1 : (z.on + 1) < 8
    · rw [if_pos h1]
      exact ⟨0, by decide, rfl⟩
    · rw [if_neg h1]
      exact ⟨0, by decide, rfl⟩
set_option maxHeartbeats 4000000 in
set_option maxRecDepth 100000 in
theorem o8_No_seeOff (z : sNd) (x : Int32) : o8 (f_No_seeOff z x).2 := by
  unfold f_No_seeOff
  by_cases h0 : x = 1
  · rw [if_pos h0]
    by_cases h1 : (z.on + 1) < 11
    · rw [if_pos h1]
      by_cases h2 : z.ro < 8
      · rw [if_pos h2]
        exact ⟨0, by decide, rfl⟩
      · rw [if_neg h2]
        exact ⟨0, by decide, rfl⟩
    · rw [if_neg h1]
      by_cases h2 : (z.ro + 1) < 8
      · rw [if_pos h2]
        exact ⟨0, by decide, rfl⟩
      · rw [if_neg h2]
        exact ⟨0, by decide, rfl⟩
  · rw [if_neg h0]
    by_cases h1 : z.ro < 8
    · rw [if_pos h1]
      exact ⟨0, by decide, rfl⟩
    · rw [if_neg h1]
      exact ⟨0, by decide, rfl⟩
set_option maxHeartbeats 4000000 in
set_option maxRecDepth 100000 in
theorem o8_No_see_18 (z : sNd) (v2 : Int32) : o8 (f_No_see_18 z v2).2 := by
  unfold f_No_see_18
  by_cases h0 : z.st = 1
  · rw [if_pos h0]
    exact (o8_No_seeSending _ _)
  · rw [if_neg h0]
    by_cases h1 : z.st = 2
    · rw [if_pos h1]
      exact (o8_No_seeHearing _ _)
    · rw [if_neg h1]
      by_cases h2 : z.st = 3
      · rw [if_pos h2]
        exact (o8_No_seeInFlag _ _)
      · rw [if_neg h2]
        by_cases h3 : z.st = 4
        · rw [if_pos h3]
          exact (o8_No_seeAfter _ _)
        · rw [if_neg h3]
          by_cases h4 : z.st = 5
          · rw [if_pos h4]
            exact (o8_No_seeInPause _ _)
          · rw [if_neg h4]
            by_cases h5 : z.st = 6
            · rw [if_pos h5]
              exact (o8_No_seeSuspended _ _)
            · rw [if_neg h5]
              by_cases h6 : z.st = 7
              · rw [if_pos h6]
                exact (o8_No_seeOff _ _)
              · rw [if_neg h6]
                by_cases h7 : v2 = 0
                · rw [if_pos h7]
                  exact ⟨0, by decide, rfl⟩
                · rw [if_neg h7]
                  exact ⟨0, by decide, rfl⟩
set_option maxHeartbeats 4000000 in
set_option maxRecDepth 100000 in
theorem o8_No_see (z : sNd) (x : Int32) : o8 (f_No_see z x).2 := by
  unfold f_No_see
  by_cases h0 : ((f_Di_next z.d).2) = 0
  · rw [if_pos h0]
    exact (o8_No_see_18 _ _)
  · rw [if_neg h0]
    exact (o8_No_see_18 _ _)
