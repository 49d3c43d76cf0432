set_option maxHeartbeats 40000000 in
set_option maxRecDepth 1000000 in
theorem lst_C (E : EE) : dwL E (eB E) = enL E s0C 0 LC := by
  unfold dwL dwD dwC dwB dwA LC
  rw [blk5, blk6, blk20]
  simp only [codL, schL, booL, wriL, decL, reaL, funL, mixL, texL, padL, mulL, rep8, List.cons_append, List.nil_append, List.append_assoc]
  refine cE (k2 := 1) rfl (eO (by decide) (vC (i2 := 1) rfl (vR (by omega)) (vC (i2 := 2) rfl (vR (by omega)) (vC (i2 := 3) rfl (vR (by omega)) (vC (i2 := 4) rfl (vR (by omega)) (vC (i2 := 5) rfl (vR (by omega)) (vC (i2 := 6) rfl (vR (by omega)) (vC (i2 := 7) rfl (vR (by omega)) (vC (i2 := 8) rfl (vR (by omega)) (vC (i2 := 9) rfl (vN (s0_z _ (by decide))) (vC (i2 := 10) rfl (vR (by omega)) (vC (i2 := 11) rfl (vR (by omega)) (vC (i2 := 12) rfl (vR (by omega)) (rfl)))))))))))))) ?_
  refine cE (k2 := 2) rfl (eQ (a := 2) (w := 7) (by decide) (by decide)) ?_
  refine cE (k2 := 3) rfl (eO (by decide) (vC (i2 := 1) rfl (vR (by omega)) (vC (i2 := 2) rfl (vR (by omega)) (vC (i2 := 3) rfl (vR (by omega)) (vC (i2 := 4) rfl (vR (by omega)) (rfl)))))) ?_
  refine cE (k2 := 4) rfl (eI (fun j => s0_z j (by decide))) ?_
  refine cE (k2 := 5) rfl (eO (by decide) (vC (i2 := 1) rfl (vN (by rw [s0_4 _ (by decide)]; rfl)) (vC (i2 := 2) rfl (vR (by omega)) (vC (i2 := 3) rfl (vR (by omega)) (vC (i2 := 4) rfl (vN (by rw [s0_4 _ (by decide)]; rfl)) (rfl)))))) ?_
  refine cE (k2 := 6) rfl (eI (fun j => s0_z j (by decide))) ?_
  refine cE (k2 := 7) rfl (eI (fun j => s0_z j (by decide))) ?_
  refine cE (k2 := 8) rfl (eI (fun j => s0_z j (by decide))) ?_
  refine cE (k2 := 9) rfl (eI (fun j => s0_z j (by decide))) ?_
  refine cE (k2 := 10) rfl (eO (by decide) (vC (i2 := 1) rfl (vR (by omega)) (vC (i2 := 2) rfl (vR (by omega)) (vC (i2 := 3) rfl (vR (by omega)) (vC (i2 := 4) rfl (vR (by omega)) (rfl)))))) ?_
  refine cE (k2 := 11) rfl (eI (fun j => s0_z j (by decide))) ?_
  refine cE (k2 := 12) rfl (eO (by decide) (vC (i2 := 1) rfl (vN (by rw [s0_4 _ (by decide)]; rfl)) (vC (i2 := 2) rfl (vR (by omega)) (vC (i2 := 3) rfl (vR (by omega)) (vC (i2 := 4) rfl (vN (by rw [s0_4 _ (by decide)]; rfl)) (rfl)))))) ?_
  refine cE (k2 := 13) rfl (eI (fun j => s0_z j (by decide))) ?_
  refine cE (k2 := 14) rfl (eI (fun j => s0_z j (by decide))) ?_
  refine cE (k2 := 15) rfl (eI (fun j => s0_z j (by decide))) ?_
  refine cE (k2 := 16) rfl (eI (fun j => s0_z j (by decide))) ?_
  refine cE (k2 := 17) rfl (eO (by decide) (vC (i2 := 1) rfl (vR (by omega)) (vC (i2 := 2) rfl (vR (by omega)) (vC (i2 := 3) rfl (vR (by omega)) (vC (i2 := 4) rfl (vR (by omega)) (rfl)))))) ?_
  refine cE (k2 := 18) rfl (eI (fun j => s0_z j (by decide))) ?_
  refine cE (k2 := 19) rfl (eO (by decide) (vC (i2 := 1) rfl (vN (by rw [s0_4 _ (by decide)]; rfl)) (vC (i2 := 2) rfl (vR (by omega)) (vC (i2 := 3) rfl (vR (by omega)) (vC (i2 := 4) rfl (vN (by rw [s0_4 _ (by decide)]; rfl)) (rfl)))))) ?_
  refine cE (k2 := 20) rfl (eI (fun j => s0_z j (by decide))) ?_
  refine cE (k2 := 21) rfl (eI (fun j => s0_z j (by decide))) ?_
  refine cE (k2 := 22) rfl (eI (fun j => s0_z j (by decide))) ?_
  refine cE (k2 := 23) rfl (eI (fun j => s0_z j (by decide))) ?_
  refine cE (k2 := 24) rfl (eO (by decide) (vC (i2 := 1) rfl (vR (by omega)) (vC (i2 := 2) rfl (vR (by omega)) (vC (i2 := 3) rfl (vR (by omega)) (vC (i2 := 4) rfl (vR (by omega)) (rfl)))))) ?_
  refine cE (k2 := 25) rfl (eI (fun j => s0_z j (by decide))) ?_
  refine cE (k2 := 26) rfl (eO (by decide) (vC (i2 := 1) rfl (vN (by rw [s0_4 _ (by decide)]; rfl)) (vC (i2 := 2) rfl (vR (by omega)) (vC (i2 := 3) rfl (vR (by omega)) (vC (i2 := 4) rfl (vN (by rw [s0_4 _ (by decide)]; rfl)) (rfl)))))) ?_
  refine cE (k2 := 27) rfl (eI (fun j => s0_z j (by decide))) ?_
  refine cE (k2 := 28) rfl (eI (fun j => s0_z j (by decide))) ?_
  refine cE (k2 := 29) rfl (eI (fun j => s0_z j (by decide))) ?_
  refine cE (k2 := 30) rfl (eI (fun j => s0_z j (by decide))) ?_
  refine cE (k2 := 31) rfl (eO (by decide) (vC (i2 := 1) rfl (vR (by omega)) (vC (i2 := 2) rfl (vR (by omega)) (vC (i2 := 3) rfl (vR (by omega)) (vC (i2 := 4) rfl (vR (by omega)) (rfl)))))) ?_
  refine cE (k2 := 32) rfl (eI (fun j => s0_z j (by decide))) ?_
  refine cE (k2 := 33) rfl (eO (by decide) (vC (i2 := 1) rfl (vN (by rw [s0_4 _ (by decide)]; rfl)) (vC (i2 := 2) rfl (vR (by omega)) (vC (i2 := 3) rfl (vR (by omega)) (vC (i2 := 4) rfl (vN (by rw [s0_4 _ (by decide)]; rfl)) (rfl)))))) ?_
  refine cE (k2 := 34) rfl (eI (fun j => s0_z j (by decide))) ?_
  refine cE (k2 := 35) rfl (eI (fun j => s0_z j (by decide))) ?_
  refine cE (k2 := 36) rfl (eI (fun j => s0_z j (by decide))) ?_
  refine cE (k2 := 37) rfl (eI (fun j => s0_z j (by decide))) ?_
  refine cE (k2 := 38) rfl (eO (by decide) (vC (i2 := 1) rfl (vR (by omega)) (vC (i2 := 2) rfl (vN (s0_z _ (by decide))) (rfl)))) ?_
  refine cE (k2 := 39) rfl (eI (fun j => s0_z j (by decide))) ?_
  refine cE (k2 := 40) rfl (eO (by decide) (vC (i2 := 1) rfl (vR (by omega)) (vC (i2 := 2) rfl (vN (s0_z _ (by decide))) (rfl)))) ?_
  refine cE (k2 := 41) rfl (eI (fun j => s0_z j (by decide))) ?_
  refine cE (k2 := 42) rfl (eO (by decide) (vC (i2 := 1) rfl (vR (by omega)) (vC (i2 := 2) rfl (vN (s0_z _ (by decide))) (rfl)))) ?_
  refine cE (k2 := 43) rfl (eI (fun j => s0_z j (by decide))) ?_
  refine cE (k2 := 44) rfl (eO (by decide) (vC (i2 := 1) rfl (vR (by omega)) (vC (i2 := 2) rfl (vR (by omega)) (vC (i2 := 3) rfl (vR (by omega)) (rfl))))) ?_
  refine cE (k2 := 45) rfl (eI (fun j => s0_z j (by decide))) ?_
  refine cE (k2 := 46) rfl (eI (fun j => s0_z j (by decide))) ?_
  refine cE (k2 := 47) rfl (eO (by decide) (vC (i2 := 1) rfl (vR (by omega)) (vC (i2 := 2) rfl (vN (s0_z _ (by decide))) (rfl)))) ?_
  refine cE (k2 := 48) rfl (eI (fun j => s0_z j (by decide))) ?_
  refine cE (k2 := 49) rfl (eO (by decide) (vC (i2 := 1) rfl (vR (by omega)) (vC (i2 := 2) rfl (vR (by omega)) (vC (i2 := 3) rfl (vR (by omega)) (vC (i2 := 4) rfl (vR (by omega)) (vC (i2 := 5) rfl (vR (by omega)) (rfl))))))) ?_
  refine cE (k2 := 50) rfl (eI (fun j => s0_z j (by decide))) ?_
  refine cE (k2 := 51) rfl (eO (by decide) (vC (i2 := 1) rfl (vR (by omega)) (vC (i2 := 2) rfl (vN (s0_z _ (by decide))) (rfl)))) ?_
  refine cE (k2 := 52) rfl (eI (fun j => s0_z j (by decide))) ?_
  refine cE (k2 := 53) rfl (eI (fun j => s0_z j (by decide))) ?_
  refine cE (k2 := 54) rfl (eI (fun j => s0_z j (by decide))) ?_
  refine cE (k2 := 55) rfl (eO (by decide) (vC (i2 := 1) rfl (vR (by omega)) (vC (i2 := 2) rfl (vN (s0_z _ (by decide))) (rfl)))) ?_
  refine cE (k2 := 56) rfl (eI (fun j => s0_z j (by decide))) ?_
  refine cE (k2 := 57) rfl (eO (by decide) (vC (i2 := 1) rfl (vR (by omega)) (vC (i2 := 2) rfl (vR (by omega)) (vC (i2 := 3) rfl (vR (by omega)) (vC (i2 := 4) rfl (vR (by omega)) (vC (i2 := 5) rfl (vR (by omega)) (vC (i2 := 6) rfl (vR (by omega)) (vC (i2 := 7) rfl (vR (by omega)) (vC (i2 := 8) rfl (vR (by omega)) (vC (i2 := 9) rfl (vR (by omega)) (rfl))))))))))) ?_
  refine cE (k2 := 58) rfl (eO (by decide) (vC (i2 := 1) rfl (vN rfl) (vC (i2 := 2) rfl (vR (by omega)) (vC (i2 := 3) rfl (vR (by omega)) (vC (i2 := 4) rfl (vN rfl) (rfl)))))) ?_
  refine cE (k2 := 59) rfl (eI (fun j => s0_z j (by decide))) ?_
  refine cE (k2 := 60) rfl (eI (fun j => s0_z j (by decide))) ?_
  refine cE (k2 := 61) rfl (eM (a := 60) (by omega) (by decide)) ?_
  refine cE (k2 := 62) rfl (eI (fun j => s0_z j (by decide))) ?_
  refine cE (k2 := 63) rfl (eI (fun j => s0_z j (by decide))) ?_
  refine cE (k2 := 64) rfl (eI (fun j => s0_z j (by decide))) ?_
  refine cE (k2 := 65) rfl (eI (fun j => s0_z j (by decide))) ?_
  refine cE (k2 := 66) rfl (eI (fun j => s0_z j (by decide))) ?_
  refine cE (k2 := 67) rfl (eI (fun j => s0_z j (by decide))) ?_
  refine cE (k2 := 68) rfl (eI (fun j => s0_z j (by decide))) ?_
  refine cE (k2 := 69) rfl (eI (fun j => s0_z j (by decide))) ?_
  refine cE (k2 := 70) rfl (eI (fun j => s0_z j (by decide))) ?_
  refine cE (k2 := 71) rfl (eO (by decide) (vC (i2 := 1) rfl (vN (by rw [s0_4 _ (by decide)]; rfl)) (vC (i2 := 2) rfl (vR (by omega)) (vC (i2 := 3) rfl (vR (by omega)) (vC (i2 := 4) rfl (vN (by rw [s0_4 _ (by decide)]; rfl)) (rfl)))))) ?_
  refine cE (k2 := 72) rfl (eI (fun j => s0_z j (by decide))) ?_
  refine cE (k2 := 73) rfl (eI (fun j => s0_z j (by decide))) ?_
  refine cE (k2 := 74) rfl (eI (fun j => s0_z j (by decide))) ?_
  refine cE (k2 := 75) rfl (eI (fun j => s0_z j (by decide))) ?_
  refine cE (k2 := 76) rfl (eI (fun j => s0_z j (by decide))) ?_
  refine cE (k2 := 77) rfl (eI (fun j => s0_z j (by decide))) ?_
  refine cE (k2 := 78) rfl (eQ (a := 78) (w := 2) (by decide) (by decide)) ?_
  refine cE (k2 := 79) rfl (eO (by decide) (vC (i2 := 1) rfl (vN (s0_z _ (by decide))) (vC (i2 := 2) rfl (vN (s0_z _ (by decide))) (vC (i2 := 3) rfl (vN (s0_z _ (by decide))) (vC (i2 := 4) rfl (vR (by omega)) (rfl)))))) ?_
  refine cE (k2 := 80) rfl (eI (fun j => s0_z j (by decide))) ?_
  refine cE (k2 := 81) rfl (eO (by decide) (vC (i2 := 1) rfl (vN (s0_z _ (by decide))) (vC (i2 := 2) rfl (vN (s0_z _ (by decide))) (vC (i2 := 3) rfl (vN (s0_z _ (by decide))) (vC (i2 := 4) rfl (vR (by omega)) (rfl)))))) ?_
  refine cE (k2 := 82) rfl (eI (fun j => s0_z j (by decide))) ?_
  refine cE (k2 := 83) rfl (eO (by decide) (vC (i2 := 1) rfl (vN (s0_z _ (by decide))) (vC (i2 := 2) rfl (vN (s0_z _ (by decide))) (vC (i2 := 3) rfl (vN (s0_z _ (by decide))) (vC (i2 := 4) rfl (vR (by omega)) (rfl)))))) ?_
  refine cE (k2 := 84) rfl (eI (fun j => s0_z j (by decide))) ?_
  refine cE (k2 := 85) rfl (eO (by decide) (vC (i2 := 1) rfl (vN (s0_z _ (by decide))) (vC (i2 := 2) rfl (vN (s0_z _ (by decide))) (vC (i2 := 3) rfl (vN (s0_z _ (by decide))) (vC (i2 := 4) rfl (vR (by omega)) (rfl)))))) ?_
  refine cE (k2 := 86) rfl (eI (fun j => s0_z j (by decide))) ?_
  refine cE (k2 := 87) rfl (eO (by decide) (vC (i2 := 1) rfl (vN (s0_z _ (by decide))) (vC (i2 := 2) rfl (vN (s0_z _ (by decide))) (vC (i2 := 3) rfl (vN (s0_z _ (by decide))) (vC (i2 := 4) rfl (vR (by omega)) (rfl)))))) ?_
  refine cE (k2 := 88) rfl (eI (fun j => s0_z j (by decide))) ?_
  refine cE (k2 := 89) rfl (eO (by decide) (vC (i2 := 1) rfl (vN (s0_z _ (by decide))) (vC (i2 := 2) rfl (vN (s0_z _ (by decide))) (vC (i2 := 3) rfl (vN (s0_z _ (by decide))) (vC (i2 := 4) rfl (vR (by omega)) (rfl)))))) ?_
  refine cE (k2 := 90) rfl (eI (fun j => s0_z j (by decide))) ?_
  refine cE (k2 := 91) rfl (eO (by decide) (vC (i2 := 1) rfl (vN (s0_z _ (by decide))) (vC (i2 := 2) rfl (vN (s0_z _ (by decide))) (vC (i2 := 3) rfl (vN (s0_z _ (by decide))) (vC (i2 := 4) rfl (vR (by omega)) (rfl)))))) ?_
  refine cE (k2 := 92) rfl (eI (fun j => s0_z j (by decide))) ?_
  refine cE (k2 := 93) rfl (eO (by decide) (vC (i2 := 1) rfl (vN (s0_z _ (by decide))) (vC (i2 := 2) rfl (vN (s0_z _ (by decide))) (vC (i2 := 3) rfl (vN (s0_z _ (by decide))) (vC (i2 := 4) rfl (vR (by omega)) (rfl)))))) ?_
  refine cE (k2 := 94) rfl (eI (fun j => s0_z j (by decide))) ?_
  refine cE (k2 := 95) rfl (eO (by decide) (vC (i2 := 1) rfl (vN (s0_z _ (by decide))) (vC (i2 := 2) rfl (vN (s0_z _ (by decide))) (vC (i2 := 3) rfl (vN (s0_z _ (by decide))) (vC (i2 := 4) rfl (vR (by omega)) (rfl)))))) ?_
  refine cE (k2 := 96) rfl (eI (fun j => s0_z j (by decide))) ?_
  refine cE (k2 := 97) rfl (eO (by decide) (vC (i2 := 1) rfl (vN (s0_z _ (by decide))) (vC (i2 := 2) rfl (vN (s0_z _ (by decide))) (vC (i2 := 3) rfl (vN (s0_z _ (by decide))) (vC (i2 := 4) rfl (vR (by omega)) (rfl)))))) ?_
  refine cE (k2 := 98) rfl (eI (fun j => s0_z j (by decide))) ?_
  refine cE (k2 := 99) rfl (eO (by decide) (vC (i2 := 1) rfl (vN (s0_z _ (by decide))) (vC (i2 := 2) rfl (vN (s0_z _ (by decide))) (vC (i2 := 3) rfl (vN (s0_z _ (by decide))) (vC (i2 := 4) rfl (vR (by omega)) (rfl)))))) ?_
  refine cE (k2 := 100) rfl (eI (fun j => s0_z j (by decide))) ?_
  refine cE (k2 := 101) rfl (eO (by decide) (vC (i2 := 1) rfl (vN (s0_z _ (by decide))) (vC (i2 := 2) rfl (vN (s0_z _ (by decide))) (vC (i2 := 3) rfl (vN (s0_z _ (by decide))) (vC (i2 := 4) rfl (vR (by omega)) (rfl)))))) ?_
  refine cE (k2 := 102) rfl (eI (fun j => s0_z j (by decide))) ?_
  refine cE (k2 := 103) rfl (eO (by decide) (vC (i2 := 1) rfl (vN (s0_z _ (by decide))) (vC (i2 := 2) rfl (vN (s0_z _ (by decide))) (vC (i2 := 3) rfl (vN (s0_z _ (by decide))) (vC (i2 := 4) rfl (vR (by omega)) (rfl)))))) ?_
  refine cE (k2 := 104) rfl (eI (fun j => s0_z j (by decide))) ?_
  refine cE (k2 := 105) rfl (eO (by decide) (vC (i2 := 1) rfl (vN (s0_z _ (by decide))) (vC (i2 := 2) rfl (vN (s0_z _ (by decide))) (vC (i2 := 3) rfl (vN (s0_z _ (by decide))) (vC (i2 := 4) rfl (vR (by omega)) (rfl)))))) ?_
  refine cE (k2 := 106) rfl (eI (fun j => s0_z j (by decide))) ?_
  refine cE (k2 := 107) rfl (eO (by decide) (vC (i2 := 1) rfl (vN (s0_z _ (by decide))) (vC (i2 := 2) rfl (vN (s0_z _ (by decide))) (vC (i2 := 3) rfl (vN (s0_z _ (by decide))) (vC (i2 := 4) rfl (vR (by omega)) (rfl)))))) ?_
  refine cE (k2 := 108) rfl (eI (fun j => s0_z j (by decide))) ?_
  refine cE (k2 := 109) rfl (eO (by decide) (vC (i2 := 1) rfl (vN (s0_z _ (by decide))) (vC (i2 := 2) rfl (vN (s0_z _ (by decide))) (vC (i2 := 3) rfl (vN (s0_z _ (by decide))) (vC (i2 := 4) rfl (vR (by omega)) (rfl)))))) ?_
  refine cE (k2 := 110) rfl (eI (fun j => s0_z j (by decide))) ?_
  refine cE (k2 := 111) rfl (eO (by decide) (vC (i2 := 1) rfl (vN (s0_z _ (by decide))) (vC (i2 := 2) rfl (vN (s0_z _ (by decide))) (vC (i2 := 3) rfl (vN (s0_z _ (by decide))) (vC (i2 := 4) rfl (vR (by omega)) (rfl)))))) ?_
  refine cE (k2 := 112) rfl (eI (fun j => s0_z j (by decide))) ?_
  refine cE (k2 := 113) rfl (eO (by decide) (vC (i2 := 1) rfl (vN (s0_z _ (by decide))) (vC (i2 := 2) rfl (vN (s0_z _ (by decide))) (vC (i2 := 3) rfl (vN (s0_z _ (by decide))) (vC (i2 := 4) rfl (vR (by omega)) (rfl)))))) ?_
  refine cE (k2 := 114) rfl (eI (fun j => s0_z j (by decide))) ?_
  refine cE (k2 := 115) rfl (eO (by decide) (vC (i2 := 1) rfl (vN (s0_z _ (by decide))) (vC (i2 := 2) rfl (vN (s0_z _ (by decide))) (vC (i2 := 3) rfl (vN (s0_z _ (by decide))) (vC (i2 := 4) rfl (vR (by omega)) (rfl)))))) ?_
  refine cE (k2 := 116) rfl (eI (fun j => s0_z j (by decide))) ?_
  refine cE (k2 := 117) rfl (eO (by decide) (vC (i2 := 1) rfl (vN (s0_z _ (by decide))) (vC (i2 := 2) rfl (vN (s0_z _ (by decide))) (vC (i2 := 3) rfl (vN (s0_z _ (by decide))) (vC (i2 := 4) rfl (vR (by omega)) (rfl)))))) ?_
  refine cE (k2 := 118) rfl (eI (fun j => s0_z j (by decide))) ?_
  refine cE (k2 := 119) rfl (eQ (a := 119) (w := 12) (by decide) (by decide)) ?_
  refine cE (k2 := 120) rfl (eO (by decide) (vC (i2 := 1) rfl (vR (by omega)) (vC (i2 := 2) rfl (vR (by omega)) (rfl)))) ?_
  refine cE (k2 := 121) rfl (eM (a := 120) (by omega) (by decide)) ?_
  refine cE (k2 := 122) rfl (eI (fun j => s0_z j (by decide))) ?_
  refine cE (k2 := 123) rfl (eI (fun j => s0_z j (by decide))) ?_
  refine cE (k2 := 124) rfl (eI (fun j => s0_z j (by decide))) ?_
  refine cE (k2 := 125) rfl (eI (fun j => s0_z j (by decide))) ?_
  refine cE (k2 := 126) rfl (eI (fun j => s0_z j (by decide))) ?_
  refine cE (k2 := 127) rfl (eI (fun j => s0_z j (by decide))) ?_
  refine cE (k2 := 128) rfl (eI (fun j => s0_z j (by decide))) ?_
  refine cE (k2 := 129) rfl (eI (fun j => s0_z j (by decide))) ?_
  refine cE (k2 := 130) rfl (eO (by decide) (vC (i2 := 1) rfl (vR (by omega)) (vC (i2 := 2) rfl (vN (s0_z _ (by decide))) (rfl)))) ?_
  refine cE (k2 := 131) rfl (eI (fun j => s0_z j (by decide))) ?_
  refine cE (k2 := 132) rfl (eO (by decide) (vC (i2 := 1) rfl (vR (by omega)) (vC (i2 := 2) rfl (vR (by omega)) (rfl)))) ?_
  refine cE (k2 := 133) rfl (eM (a := 132) (by omega) (by decide)) ?_
  refine cE (k2 := 134) rfl (eI (fun j => s0_z j (by decide))) ?_
  refine cE (k2 := 135) rfl (eI (fun j => s0_z j (by decide))) ?_
  refine cE (k2 := 136) rfl (eI (fun j => s0_z j (by decide))) ?_
  refine cE (k2 := 137) rfl (eI (fun j => s0_z j (by decide))) ?_
  refine cE (k2 := 138) rfl (eI (fun j => s0_z j (by decide))) ?_
  refine cE (k2 := 139) rfl (eI (fun j => s0_z j (by decide))) ?_
  refine cE (k2 := 140) rfl (eI (fun j => s0_z j (by decide))) ?_
  refine cE (k2 := 141) rfl (eI (fun j => s0_z j (by decide))) ?_
  refine cE (k2 := 142) rfl (eO (by decide) (vC (i2 := 1) rfl (vR (by omega)) (vC (i2 := 2) rfl (vN (s0_z _ (by decide))) (rfl)))) ?_
  refine cE (k2 := 143) rfl (eI (fun j => s0_z j (by decide))) ?_
  refine cE (k2 := 144) rfl (eO (by decide) (vC (i2 := 1) rfl (vR (by omega)) (vC (i2 := 2) rfl (vR (by omega)) (rfl)))) ?_
  refine cE (k2 := 145) rfl (eM (a := 144) (by omega) (by decide)) ?_
  refine cE (k2 := 146) rfl (eI (fun j => s0_z j (by decide))) ?_
  refine cE (k2 := 147) rfl (eI (fun j => s0_z j (by decide))) ?_
  refine cE (k2 := 148) rfl (eI (fun j => s0_z j (by decide))) ?_
  refine cE (k2 := 149) rfl (eI (fun j => s0_z j (by decide))) ?_
  refine cE (k2 := 150) rfl (eI (fun j => s0_z j (by decide))) ?_
  refine cE (k2 := 151) rfl (eI (fun j => s0_z j (by decide))) ?_
  refine cE (k2 := 152) rfl (eI (fun j => s0_z j (by decide))) ?_
  refine cE (k2 := 153) rfl (eI (fun j => s0_z j (by decide))) ?_
  refine cE (k2 := 154) rfl (eO (by decide) (vC (i2 := 1) rfl (vR (by omega)) (vC (i2 := 2) rfl (vN (s0_z _ (by decide))) (rfl)))) ?_
  refine cE (k2 := 155) rfl (eI (fun j => s0_z j (by decide))) ?_
  refine cE (k2 := 156) rfl (eO (by decide) (vC (i2 := 1) rfl (vR (by omega)) (vC (i2 := 2) rfl (vR (by omega)) (rfl)))) ?_
  refine cE (k2 := 157) rfl (eM (a := 156) (by omega) (by decide)) ?_
  refine cE (k2 := 158) rfl (eI (fun j => s0_z j (by decide))) ?_
  refine cE (k2 := 159) rfl (eI (fun j => s0_z j (by decide))) ?_
  refine cE (k2 := 160) rfl (eI (fun j => s0_z j (by decide))) ?_
  refine cE (k2 := 161) rfl (eI (fun j => s0_z j (by decide))) ?_
  refine cE (k2 := 162) rfl (eI (fun j => s0_z j (by decide))) ?_
  refine cE (k2 := 163) rfl (eI (fun j => s0_z j (by decide))) ?_
  refine cE (k2 := 164) rfl (eI (fun j => s0_z j (by decide))) ?_
  refine cE (k2 := 165) rfl (eI (fun j => s0_z j (by decide))) ?_
  refine cE (k2 := 166) rfl (eO (by decide) (vC (i2 := 1) rfl (vR (by omega)) (vC (i2 := 2) rfl (vN (s0_z _ (by decide))) (rfl)))) ?_
  refine cE (k2 := 167) rfl (eI (fun j => s0_z j (by decide))) ?_
  refine cE (k2 := 168) rfl (eO (by decide) (vC (i2 := 1) rfl (vR (by omega)) (vC (i2 := 2) rfl (vR (by omega)) (rfl)))) ?_
  refine cE (k2 := 169) rfl (eM (a := 168) (by omega) (by decide)) ?_
  refine cE (k2 := 170) rfl (eI (fun j => s0_z j (by decide))) ?_
  refine cE (k2 := 171) rfl (eI (fun j => s0_z j (by decide))) ?_
  refine cE (k2 := 172) rfl (eI (fun j => s0_z j (by decide))) ?_
  refine cE (k2 := 173) rfl (eI (fun j => s0_z j (by decide))) ?_
  refine cE (k2 := 174) rfl (eI (fun j => s0_z j (by decide))) ?_
  refine cE (k2 := 175) rfl (eI (fun j => s0_z j (by decide))) ?_
  refine cE (k2 := 176) rfl (eI (fun j => s0_z j (by decide))) ?_
  refine cE (k2 := 177) rfl (eI (fun j => s0_z j (by decide))) ?_
  refine cE (k2 := 178) rfl (eO (by decide) (vC (i2 := 1) rfl (vR (by omega)) (vC (i2 := 2) rfl (vN (s0_z _ (by decide))) (rfl)))) ?_
  refine cE (k2 := 179) rfl (eI (fun j => s0_z j (by decide))) ?_
  refine cE (k2 := 180) rfl (eO (by decide) (vC (i2 := 1) rfl (vR (by omega)) (vC (i2 := 2) rfl (vR (by omega)) (rfl)))) ?_
  refine cE (k2 := 181) rfl (eM (a := 180) (by omega) (by decide)) ?_
  refine cE (k2 := 182) rfl (eI (fun j => s0_z j (by decide))) ?_
  refine cE (k2 := 183) rfl (eI (fun j => s0_z j (by decide))) ?_
  refine cE (k2 := 184) rfl (eI (fun j => s0_z j (by decide))) ?_
  refine cE (k2 := 185) rfl (eI (fun j => s0_z j (by decide))) ?_
  refine cE (k2 := 186) rfl (eI (fun j => s0_z j (by decide))) ?_
  refine cE (k2 := 187) rfl (eI (fun j => s0_z j (by decide))) ?_
  refine cE (k2 := 188) rfl (eI (fun j => s0_z j (by decide))) ?_
  refine cE (k2 := 189) rfl (eI (fun j => s0_z j (by decide))) ?_
  refine cE (k2 := 190) rfl (eO (by decide) (vC (i2 := 1) rfl (vR (by omega)) (vC (i2 := 2) rfl (vN (s0_z _ (by decide))) (rfl)))) ?_
  refine cE (k2 := 191) rfl (eI (fun j => s0_z j (by decide))) ?_
  refine cE (k2 := 192) rfl (eO (by decide) (vC (i2 := 1) rfl (vR (by omega)) (vC (i2 := 2) rfl (vR (by omega)) (vC (i2 := 3) rfl (vN (s0_z _ (by decide))) (vC (i2 := 4) rfl (vN (s0_z _ (by decide))) (vC (i2 := 5) rfl (vN (s0_z _ (by decide))) (vC (i2 := 6) rfl (vN (s0_z _ (by decide))) (rfl)))))))) ?_
  refine cE (k2 := 193) rfl (eI (fun j => s0_z j (by decide))) ?_
  refine cE (k2 := 194) rfl (eI (fun j => s0_z j (by decide))) ?_
  refine cE (k2 := 195) rfl (eO (by decide) (vC (i2 := 1) rfl (vR (by omega)) (vC (i2 := 2) rfl (vR (by omega)) (vC (i2 := 3) rfl (vR (by omega)) (vC (i2 := 4) rfl (vR (by omega)) (vC (i2 := 5) rfl (vR (by omega)) (vC (i2 := 6) rfl (vR (by omega)) (vC (i2 := 7) rfl (vR (by omega)) (vC (i2 := 8) rfl (vN (s0_z _ (by decide))) (vC (i2 := 9) rfl (vN (s0_z _ (by decide))) (rfl))))))))))) ?_
  refine cE (k2 := 196) rfl (eG (E := E) (i := 26) (z := -1) (fun j => if_pos rfl)) ?_
  refine cE (k2 := 197) rfl (eI (fun j => s0_z j (by decide))) ?_
  refine cE (k2 := 198) rfl (eI (fun j => s0_z j (by decide))) ?_
  refine cE (k2 := 199) rfl (eL_ (fun j => s0_z j (by decide))) ?_
  refine cE (k2 := 200) rfl (eI (fun j => s0_z j (by decide))) ?_
  refine cE (k2 := 201) rfl (eI (fun j => s0_z j (by decide))) ?_
  rfl
