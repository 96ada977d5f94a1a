def sr_FX3 (own : String) (ik ic z : Nat) : Prop := True
theorem fx3 : sr_FX3 "ShiftRing" 431 435 3 := trivial
theorem sr_thr3 {α : Type} {em : α → sr_H} {l : Launch} {M : sr_M} {pc : Nat} {L : List (Option sr_V)} {S : List sr_V} {t : α} {mc ms : Nat} {ik is ic z : Nat} {tx : String} (F : sr_FX3 (sr_My M).cls ik ic z) (hs : ((sr_My M).cls, is, tx) ∈ sr_ST) (d0 : decode (sr_Mb M) pc = .ok (.new ik, 3)) (d3 : decode (sr_Mb M) (pc + 3) = .ok (.dup, 1))
    (d4 : (decode (sr_Mb M) (pc + 4) = .ok (.ldc is, 2) ∧ decode (sr_Mb M) (pc + 6) = .ok (.invokespecial ic, 3) ∧ decode (sr_Mb M) (pc + 9) = .ok (.athrow, 1)) ∨ (decode (sr_Mb M) (pc + 4) = .ok (.ldc_w is, 3) ∧ decode (sr_Mb M) (pc + 7) = .ok (.invokespecial ic, 3) ∧ decode (sr_Mb M) (pc + 10) = .ok (.athrow, 1)))
    (hh : sr_Mh M = []) (hf : 6 ≤ sr_Mf M) (ho : 90 ≤ sr_Mo M) (hS : sr_ws S = true) (hfl : (em t).2.1 = false) : sr_G em l M pc L S t (some (.inr z, t)) (1 + mc) (6 + ms) := sorry
