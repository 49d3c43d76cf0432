set_option maxHeartbeats 4000000 in
set_option maxRecDepth 1000000 in
theorem lst_M (l : Launch) (D : va_G) (A : Nat → ClassId) (b : Nat) : dmL (EM (l, D, A, b)) b = enL (EM (l, D, A, b)) s0M 0 LM := rfl
