/-! the text of the reference -/
def Mt (X : Tx) (M : MS) : Prop := mg_tape M = X.1 ∧ mg_length M = J X.2
/-! what a change leaves alone -/
theorem p_at_at (M : MS) (v : Int32) : mg_at (ms_at M v) = v := rfl
theorem p_from_at (M : MS) (v : Int32) : mg_from (ms_at M v) = mg_from M := rfl
theorem p_fault_at (M : MS) (v : Int32) : mg_fault (ms_at M v) = mg_fault M := rfl
theorem p_open_at (M : MS) (v : Int32) : mg_open (ms_at M v) = mg_open M := rfl
theorem p_piled_at (M : MS) (v : Int32) : mg_piled (ms_at M v) = mg_piled M := rfl
theorem p_tops_at (M : MS) (v : Int32) : mg_tops (ms_at M v) = mg_tops M := rfl
theorem p_bottoms_at (M : MS) (v : Int32) : mg_bottoms (ms_at M v) = mg_bottoms M := rfl
theorem p_beyond_at (M : MS) (v : Int32) : mg_beyond (ms_at M v) = mg_beyond M := rfl
theorem p_up_at (M : MS) (v : Int32) : mg_up (ms_at M v) = mg_up M := rfl
theorem p_under_at (M : MS) (v : Int32) : mg_under (ms_at M v) = mg_under M := rfl
theorem p_oftenNow_at (M : MS) (v : Int32) : mg_oftenNow (ms_at M v) = mg_oftenNow M := rfl
theorem p_tape_at (M : MS) (v : Int32) : mg_tape (ms_at M v) = mg_tape M := rfl
theorem p_length_at (M : MS) (v : Int32) : mg_length (ms_at M v) = mg_length M := rfl
theorem p_kM_at (M : MS) (v : Int32) : kM (ms_at M v) = kM M := rfl
theorem Mt_at {X : Tx} {M : MS} (h : Mt X M) (v : Int32) : Mt X (ms_at M v) := h
theorem p_at_from (M : MS) (v : Int32) : mg_at (ms_from M v) = mg_at M := rfl
theorem p_from_from (M : MS) (v : Int32) : mg_from (ms_from M v) = v := rfl
theorem p_fault_from (M : MS) (v : Int32) : mg_fault (ms_from M v) = mg_fault M := rfl
theorem p_open_from (M : MS) (v : Int32) : mg_open (ms_from M v) = mg_open M := rfl
theorem p_piled_from (M : MS) (v : Int32) : mg_piled (ms_from M v) = mg_piled M := rfl
theorem p_tops_from (M : MS) (v : Int32) : mg_tops (ms_from M v) = mg_tops M := rfl
theorem p_bottoms_from (M : MS) (v : Int32) : mg_bottoms (ms_from M v) = mg_bottoms M := rfl
theorem p_beyond_from (M : MS) (v : Int32) : mg_beyond (ms_from M v) = mg_beyond M := rfl
theorem p_up_from (M : MS) (v : Int32) : mg_up (ms_from M v) = mg_up M := rfl
theorem p_under_from (M : MS) (v : Int32) : mg_under (ms_from M v) = mg_under M := rfl
theorem p_oftenNow_from (M : MS) (v : Int32) : mg_oftenNow (ms_from M v) = mg_oftenNow M := rfl
theorem p_tape_from (M : MS) (v : Int32) : mg_tape (ms_from M v) = mg_tape M := rfl
theorem p_length_from (M : MS) (v : Int32) : mg_length (ms_from M v) = mg_length M := rfl
theorem p_kM_from (M : MS) (v : Int32) : kM (ms_from M v) = kM M := rfl
theorem Mt_from {X : Tx} {M : MS} (h : Mt X M) (v : Int32) : Mt X (ms_from M v) := h
theorem p_at_fault (M : MS) (v : Int32) : mg_at (ms_fault M v) = mg_at M := rfl
theorem p_from_fault (M : MS) (v : Int32) : mg_from (ms_fault M v) = mg_from M := rfl
theorem p_fault_fault (M : MS) (v : Int32) : mg_fault (ms_fault M v) = v := rfl
theorem p_open_fault (M : MS) (v : Int32) : mg_open (ms_fault M v) = mg_open M := rfl
theorem p_piled_fault (M : MS) (v : Int32) : mg_piled (ms_fault M v) = mg_piled M := rfl
theorem p_tops_fault (M : MS) (v : Int32) : mg_tops (ms_fault M v) = mg_tops M := rfl
theorem p_bottoms_fault (M : MS) (v : Int32) : mg_bottoms (ms_fault M v) = mg_bottoms M := rfl
theorem p_beyond_fault (M : MS) (v : Int32) : mg_beyond (ms_fault M v) = mg_beyond M := rfl
theorem p_up_fault (M : MS) (v : Int32) : mg_up (ms_fault M v) = mg_up M := rfl
theorem p_under_fault (M : MS) (v : Int32) : mg_under (ms_fault M v) = mg_under M := rfl
theorem p_oftenNow_fault (M : MS) (v : Int32) : mg_oftenNow (ms_fault M v) = mg_oftenNow M := rfl
theorem p_tape_fault (M : MS) (v : Int32) : mg_tape (ms_fault M v) = mg_tape M := rfl
theorem p_length_fault (M : MS) (v : Int32) : mg_length (ms_fault M v) = mg_length M := rfl
theorem p_kM_fault (M : MS) (v : Int32) : kM (ms_fault M v) = kM M := rfl
theorem Mt_fault {X : Tx} {M : MS} (h : Mt X M) (v : Int32) : Mt X (ms_fault M v) := h
theorem p_at_open (M : MS) (v : Int32) : mg_at (ms_open M v) = mg_at M := rfl
theorem p_from_open (M : MS) (v : Int32) : mg_from (ms_open M v) = mg_from M := rfl
theorem p_fault_open (M : MS) (v : Int32) : mg_fault (ms_open M v) = mg_fault M := rfl
theorem p_open_open (M : MS) (v : Int32) : mg_open (ms_open M v) = v := rfl
theorem p_piled_open (M : MS) (v : Int32) : mg_piled (ms_open M v) = mg_piled M := rfl
theorem p_tops_open (M : MS) (v : Int32) : mg_tops (ms_open M v) = mg_tops M := rfl
theorem p_bottoms_open (M : MS) (v : Int32) : mg_bottoms (ms_open M v) = mg_bottoms M := rfl
theorem p_beyond_open (M : MS) (v : Int32) : mg_beyond (ms_open M v) = mg_beyond M := rfl
theorem p_up_open (M : MS) (v : Int32) : mg_up (ms_open M v) = mg_up M := rfl
theorem p_under_open (M : MS) (v : Int32) : mg_under (ms_open M v) = mg_under M := rfl
theorem p_oftenNow_open (M : MS) (v : Int32) : mg_oftenNow (ms_open M v) = mg_oftenNow M := rfl
theorem p_tape_open (M : MS) (v : Int32) : mg_tape (ms_open M v) = mg_tape M := rfl
theorem p_length_open (M : MS) (v : Int32) : mg_length (ms_open M v) = mg_length M := rfl
theorem p_kM_open (M : MS) (v : Int32) : kM (ms_open M v) = kM M := rfl
theorem Mt_open {X : Tx} {M : MS} (h : Mt X M) (v : Int32) : Mt X (ms_open M v) := h
theorem p_at_piled (M : MS) (v : Int32) : mg_at (ms_piled M v) = mg_at M := rfl
theorem p_from_piled (M : MS) (v : Int32) : mg_from (ms_piled M v) = mg_from M := rfl
theorem p_fault_piled (M : MS) (v : Int32) : mg_fault (ms_piled M v) = mg_fault M := rfl
theorem p_open_piled (M : MS) (v : Int32) : mg_open (ms_piled M v) = mg_open M := rfl
theorem p_piled_piled (M : MS) (v : Int32) : mg_piled (ms_piled M v) = v := rfl
theorem p_tops_piled (M : MS) (v : Int32) : mg_tops (ms_piled M v) = mg_tops M := rfl
theorem p_bottoms_piled (M : MS) (v : Int32) : mg_bottoms (ms_piled M v) = mg_bottoms M := rfl
theorem p_beyond_piled (M : MS) (v : Int32) : mg_beyond (ms_piled M v) = mg_beyond M := rfl
theorem p_up_piled (M : MS) (v : Int32) : mg_up (ms_piled M v) = mg_up M := rfl
theorem p_under_piled (M : MS) (v : Int32) : mg_under (ms_piled M v) = mg_under M := rfl
theorem p_oftenNow_piled (M : MS) (v : Int32) : mg_oftenNow (ms_piled M v) = mg_oftenNow M := rfl
theorem p_tape_piled (M : MS) (v : Int32) : mg_tape (ms_piled M v) = mg_tape M := rfl
theorem p_length_piled (M : MS) (v : Int32) : mg_length (ms_piled M v) = mg_length M := rfl
theorem p_kM_piled (M : MS) (v : Int32) : kM (ms_piled M v) = kM M := rfl
theorem Mt_piled {X : Tx} {M : MS} (h : Mt X M) (v : Int32) : Mt X (ms_piled M v) := h
theorem p_at_tops (M : MS) (v : Nat → Int64) : mg_at (ms_tops M v) = mg_at M := rfl
theorem p_from_tops (M : MS) (v : Nat → Int64) : mg_from (ms_tops M v) = mg_from M := rfl
theorem p_fault_tops (M : MS) (v : Nat → Int64) : mg_fault (ms_tops M v) = mg_fault M := rfl
theorem p_open_tops (M : MS) (v : Nat → Int64) : mg_open (ms_tops M v) = mg_open M := rfl
theorem p_piled_tops (M : MS) (v : Nat → Int64) : mg_piled (ms_tops M v) = mg_piled M := rfl
theorem p_tops_tops (M : MS) (v : Nat → Int64) : mg_tops (ms_tops M v) = v := rfl
theorem p_bottoms_tops (M : MS) (v : Nat → Int64) : mg_bottoms (ms_tops M v) = mg_bottoms M := rfl
theorem p_beyond_tops (M : MS) (v : Nat → Int64) : mg_beyond (ms_tops M v) = mg_beyond M := rfl
theorem p_up_tops (M : MS) (v : Nat → Int64) : mg_up (ms_tops M v) = mg_up M := rfl
theorem p_under_tops (M : MS) (v : Nat → Int64) : mg_under (ms_tops M v) = mg_under M := rfl
theorem p_oftenNow_tops (M : MS) (v : Nat → Int64) : mg_oftenNow (ms_tops M v) = mg_oftenNow M := rfl
theorem p_tape_tops (M : MS) (v : Nat → Int64) : mg_tape (ms_tops M v) = mg_tape M := rfl
theorem p_length_tops (M : MS) (v : Nat → Int64) : mg_length (ms_tops M v) = mg_length M := rfl
theorem p_kM_tops (M : MS) (v : Nat → Int64) : kM (ms_tops M v) = kM M := rfl
theorem Mt_tops {X : Tx} {M : MS} (h : Mt X M) (v : Nat → Int64) : Mt X (ms_tops M v) := h
theorem p_at_bottoms (M : MS) (v : Nat → Int64) : mg_at (ms_bottoms M v) = mg_at M := rfl
theorem p_from_bottoms (M : MS) (v : Nat → Int64) : mg_from (ms_bottoms M v) = mg_from M := rfl
theorem p_fault_bottoms (M : MS) (v : Nat → Int64) : mg_fault (ms_bottoms M v) = mg_fault M := rfl
theorem p_open_bottoms (M : MS) (v : Nat → Int64) : mg_open (ms_bottoms M v) = mg_open M := rfl
theorem p_piled_bottoms (M : MS) (v : Nat → Int64) : mg_piled (ms_bottoms M v) = mg_piled M := rfl
theorem p_tops_bottoms (M : MS) (v : Nat → Int64) : mg_tops (ms_bottoms M v) = mg_tops M := rfl
theorem p_bottoms_bottoms (M : MS) (v : Nat → Int64) : mg_bottoms (ms_bottoms M v) = v := rfl
theorem p_beyond_bottoms (M : MS) (v : Nat → Int64) : mg_beyond (ms_bottoms M v) = mg_beyond M := rfl
theorem p_up_bottoms (M : MS) (v : Nat → Int64) : mg_up (ms_bottoms M v) = mg_up M := rfl
theorem p_under_bottoms (M : MS) (v : Nat → Int64) : mg_under (ms_bottoms M v) = mg_under M := rfl
theorem p_oftenNow_bottoms (M : MS) (v : Nat → Int64) : mg_oftenNow (ms_bottoms M v) = mg_oftenNow M := rfl
theorem p_tape_bottoms (M : MS) (v : Nat → Int64) : mg_tape (ms_bottoms M v) = mg_tape M := rfl
theorem p_length_bottoms (M : MS) (v : Nat → Int64) : mg_length (ms_bottoms M v) = mg_length M := rfl
theorem p_kM_bottoms (M : MS) (v : Nat → Int64) : kM (ms_bottoms M v) = kM M := rfl
theorem Mt_bottoms {X : Tx} {M : MS} (h : Mt X M) (v : Nat → Int64) : Mt X (ms_bottoms M v) := h
theorem p_at_beyond (M : MS) (v : Int32) : mg_at (ms_beyond M v) = mg_at M := rfl
theorem p_from_beyond (M : MS) (v : Int32) : mg_from (ms_beyond M v) = mg_from M := rfl
theorem p_fault_beyond (M : MS) (v : Int32) : mg_fault (ms_beyond M v) = mg_fault M := rfl
theorem p_open_beyond (M : MS) (v : Int32) : mg_open (ms_beyond M v) = mg_open M := rfl
theorem p_piled_beyond (M : MS) (v : Int32) : mg_piled (ms_beyond M v) = mg_piled M := rfl
theorem p_tops_beyond (M : MS) (v : Int32) : mg_tops (ms_beyond M v) = mg_tops M := rfl
theorem p_bottoms_beyond (M : MS) (v : Int32) : mg_bottoms (ms_beyond M v) = mg_bottoms M := rfl
theorem p_beyond_beyond (M : MS) (v : Int32) : mg_beyond (ms_beyond M v) = v := rfl
theorem p_up_beyond (M : MS) (v : Int32) : mg_up (ms_beyond M v) = mg_up M := rfl
theorem p_under_beyond (M : MS) (v : Int32) : mg_under (ms_beyond M v) = mg_under M := rfl
theorem p_oftenNow_beyond (M : MS) (v : Int32) : mg_oftenNow (ms_beyond M v) = mg_oftenNow M := rfl
theorem p_tape_beyond (M : MS) (v : Int32) : mg_tape (ms_beyond M v) = mg_tape M := rfl
theorem p_length_beyond (M : MS) (v : Int32) : mg_length (ms_beyond M v) = mg_length M := rfl
theorem p_kM_beyond (M : MS) (v : Int32) : kM (ms_beyond M v) = kM M := rfl
theorem Mt_beyond {X : Tx} {M : MS} (h : Mt X M) (v : Int32) : Mt X (ms_beyond M v) := h
theorem p_at_up (M : MS) (v : Int64) : mg_at (ms_up M v) = mg_at M := rfl
theorem p_from_up (M : MS) (v : Int64) : mg_from (ms_up M v) = mg_from M := rfl
theorem p_fault_up (M : MS) (v : Int64) : mg_fault (ms_up M v) = mg_fault M := rfl
theorem p_open_up (M : MS) (v : Int64) : mg_open (ms_up M v) = mg_open M := rfl
theorem p_piled_up (M : MS) (v : Int64) : mg_piled (ms_up M v) = mg_piled M := rfl
theorem p_tops_up (M : MS) (v : Int64) : mg_tops (ms_up M v) = mg_tops M := rfl
theorem p_bottoms_up (M : MS) (v : Int64) : mg_bottoms (ms_up M v) = mg_bottoms M := rfl
theorem p_beyond_up (M : MS) (v : Int64) : mg_beyond (ms_up M v) = mg_beyond M := rfl
theorem p_up_up (M : MS) (v : Int64) : mg_up (ms_up M v) = v := rfl
theorem p_under_up (M : MS) (v : Int64) : mg_under (ms_up M v) = mg_under M := rfl
theorem p_oftenNow_up (M : MS) (v : Int64) : mg_oftenNow (ms_up M v) = mg_oftenNow M := rfl
theorem p_tape_up (M : MS) (v : Int64) : mg_tape (ms_up M v) = mg_tape M := rfl
theorem p_length_up (M : MS) (v : Int64) : mg_length (ms_up M v) = mg_length M := rfl
theorem p_kM_up (M : MS) (v : Int64) : kM (ms_up M v) = kM M := rfl
theorem Mt_up {X : Tx} {M : MS} (h : Mt X M) (v : Int64) : Mt X (ms_up M v) := h
theorem p_at_under (M : MS) (v : Int64) : mg_at (ms_under M v) = mg_at M := rfl
theorem p_from_under (M : MS) (v : Int64) : mg_from (ms_under M v) = mg_from M := rfl
theorem p_fault_under (M : MS) (v : Int64) : mg_fault (ms_under M v) = mg_fault M := rfl
theorem p_open_under (M : MS) (v : Int64) : mg_open (ms_under M v) = mg_open M := rfl
theorem p_piled_under (M : MS) (v : Int64) : mg_piled (ms_under M v) = mg_piled M := rfl
theorem p_tops_under (M : MS) (v : Int64) : mg_tops (ms_under M v) = mg_tops M := rfl
theorem p_bottoms_under (M : MS) (v : Int64) : mg_bottoms (ms_under M v) = mg_bottoms M := rfl
theorem p_beyond_under (M : MS) (v : Int64) : mg_beyond (ms_under M v) = mg_beyond M := rfl
theorem p_up_under (M : MS) (v : Int64) : mg_up (ms_under M v) = mg_up M := rfl
theorem p_under_under (M : MS) (v : Int64) : mg_under (ms_under M v) = v := rfl
theorem p_oftenNow_under (M : MS) (v : Int64) : mg_oftenNow (ms_under M v) = mg_oftenNow M := rfl
theorem p_tape_under (M : MS) (v : Int64) : mg_tape (ms_under M v) = mg_tape M := rfl
theorem p_length_under (M : MS) (v : Int64) : mg_length (ms_under M v) = mg_length M := rfl
theorem p_kM_under (M : MS) (v : Int64) : kM (ms_under M v) = kM M := rfl
theorem Mt_under {X : Tx} {M : MS} (h : Mt X M) (v : Int64) : Mt X (ms_under M v) := h
theorem p_at_oftenNow (M : MS) (v : Int32) : mg_at (ms_oftenNow M v) = mg_at M := rfl
theorem p_from_oftenNow (M : MS) (v : Int32) : mg_from (ms_oftenNow M v) = mg_from M := rfl
theorem p_fault_oftenNow (M : MS) (v : Int32) : mg_fault (ms_oftenNow M v) = mg_fault M := rfl
theorem p_open_oftenNow (M : MS) (v : Int32) : mg_open (ms_oftenNow M v) = mg_open M := rfl
theorem p_piled_oftenNow (M : MS) (v : Int32) : mg_piled (ms_oftenNow M v) = mg_piled M := rfl
theorem p_tops_oftenNow (M : MS) (v : Int32) : mg_tops (ms_oftenNow M v) = mg_tops M := rfl
theorem p_bottoms_oftenNow (M : MS) (v : Int32) : mg_bottoms (ms_oftenNow M v) = mg_bottoms M := rfl
theorem p_beyond_oftenNow (M : MS) (v : Int32) : mg_beyond (ms_oftenNow M v) = mg_beyond M := rfl
theorem p_up_oftenNow (M : MS) (v : Int32) : mg_up (ms_oftenNow M v) = mg_up M := rfl
theorem p_under_oftenNow (M : MS) (v : Int32) : mg_under (ms_oftenNow M v) = mg_under M := rfl
theorem p_oftenNow_oftenNow (M : MS) (v : Int32) : mg_oftenNow (ms_oftenNow M v) = v := rfl
theorem p_tape_oftenNow (M : MS) (v : Int32) : mg_tape (ms_oftenNow M v) = mg_tape M := rfl
theorem p_length_oftenNow (M : MS) (v : Int32) : mg_length (ms_oftenNow M v) = mg_length M := rfl
theorem p_kM_oftenNow (M : MS) (v : Int32) : kM (ms_oftenNow M v) = kM M := rfl
theorem Mt_oftenNow {X : Tx} {M : MS} (h : Mt X M) (v : Int32) : Mt X (ms_oftenNow M v) := h
theorem c_at_at (C : CS) (v : Int32) : cg_at (cs_at C v) = v := rfl
theorem c_token_at (C : CS) (v : Int32) : cg_token (cs_at C v) = cg_token C := rfl
theorem c_refused_at (C : CS) (v : Int32) : cg_refused (cs_at C v) = cg_refused C := rfl
theorem c_exceeded_at (C : CS) (v : Int32) : cg_exceeded (cs_at C v) = cg_exceeded C := rfl
theorem c_sawSums_at (C : CS) (v : Int32) : cg_sawSums (cs_at C v) = cg_sawSums C := rfl
theorem c_kC_at (C : CS) (v : Int32) : kC (cs_at C v) = kC C := rfl
theorem TC_at {X : Tx} {C : CS} (h : TC X C) (v : Int32) : TC X (cs_at C v) := h
theorem c_at_token (C : CS) (v : Int32) : cg_at (cs_token C v) = cg_at C := rfl
theorem c_token_token (C : CS) (v : Int32) : cg_token (cs_token C v) = v := rfl
theorem c_refused_token (C : CS) (v : Int32) : cg_refused (cs_token C v) = cg_refused C := rfl
theorem c_exceeded_token (C : CS) (v : Int32) : cg_exceeded (cs_token C v) = cg_exceeded C := rfl
theorem c_sawSums_token (C : CS) (v : Int32) : cg_sawSums (cs_token C v) = cg_sawSums C := rfl
theorem c_kC_token (C : CS) (v : Int32) : kC (cs_token C v) = kC C := rfl
theorem TC_token {X : Tx} {C : CS} (h : TC X C) (v : Int32) : TC X (cs_token C v) := h
theorem c_at_refused (C : CS) (v : Int32) : cg_at (cs_refused C v) = cg_at C := rfl
theorem c_token_refused (C : CS) (v : Int32) : cg_token (cs_refused C v) = cg_token C := rfl
theorem c_refused_refused (C : CS) (v : Int32) : cg_refused (cs_refused C v) = v := rfl
theorem c_exceeded_refused (C : CS) (v : Int32) : cg_exceeded (cs_refused C v) = cg_exceeded C := rfl
theorem c_sawSums_refused (C : CS) (v : Int32) : cg_sawSums (cs_refused C v) = cg_sawSums C := rfl
theorem c_kC_refused (C : CS) (v : Int32) : kC (cs_refused C v) = kC C := rfl
theorem TC_refused {X : Tx} {C : CS} (h : TC X C) (v : Int32) : TC X (cs_refused C v) := h
theorem c_at_exceeded (C : CS) (v : Int32) : cg_at (cs_exceeded C v) = cg_at C := rfl
theorem c_token_exceeded (C : CS) (v : Int32) : cg_token (cs_exceeded C v) = cg_token C := rfl
theorem c_refused_exceeded (C : CS) (v : Int32) : cg_refused (cs_exceeded C v) = cg_refused C := rfl
theorem c_exceeded_exceeded (C : CS) (v : Int32) : cg_exceeded (cs_exceeded C v) = v := rfl
theorem c_sawSums_exceeded (C : CS) (v : Int32) : cg_sawSums (cs_exceeded C v) = cg_sawSums C := rfl
theorem c_kC_exceeded (C : CS) (v : Int32) : kC (cs_exceeded C v) = kC C := rfl
theorem TC_exceeded {X : Tx} {C : CS} (h : TC X C) (v : Int32) : TC X (cs_exceeded C v) := h
theorem c_at_sawSums (C : CS) (v : Int32) : cg_at (cs_sawSums C v) = cg_at C := rfl
theorem c_token_sawSums (C : CS) (v : Int32) : cg_token (cs_sawSums C v) = cg_token C := rfl
theorem c_refused_sawSums (C : CS) (v : Int32) : cg_refused (cs_sawSums C v) = cg_refused C := rfl
theorem c_exceeded_sawSums (C : CS) (v : Int32) : cg_exceeded (cs_sawSums C v) = cg_exceeded C := rfl
theorem c_sawSums_sawSums (C : CS) (v : Int32) : cg_sawSums (cs_sawSums C v) = v := rfl
theorem c_kC_sawSums (C : CS) (v : Int32) : kC (cs_sawSums C v) = kC C := rfl
theorem TC_sawSums {X : Tx} {C : CS} (h : TC X C) (v : Int32) : TC X (cs_sawSums C v) := h
theorem p_at2 (M : MS) (v w : Int32) : ms_at (ms_at M v) w = ms_at M w := rfl
theorem p_at_from_at (M : MS) (a b c : Int32) : ms_at (ms_from (ms_at M a) b) c = ms_at (ms_from M b) c := rfl
theorem p_at_fault_at (M : MS) (a b c : Int32) : ms_at (ms_fault (ms_at M a) b) c = ms_at (ms_fault M b) c := rfl
theorem p_at_open_at (M : MS) (a b c : Int32) : ms_at (ms_open (ms_at M a) b) c = ms_at (ms_open M b) c := rfl
theorem p_at_open_fault_at (M : MS) (a b c d : Int32) : ms_at (ms_open (ms_fault (ms_at M a) b) c) d = ms_at (ms_open (ms_fault M b) c) d := rfl
