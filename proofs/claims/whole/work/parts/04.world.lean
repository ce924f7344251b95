/-! the world of the claim: one state of the class, one of the reference -/
abbrev vwCl : List vw_C := [(RX0, TX0, 3), (RX1, TX1, 2), (RX2, TX2, 4), (RX3, TX3, 8), (RX4, TX4, 6), (RX6, TX6, 9), (RX7, TX7, 24)]
abbrev MS : Type := (Int32) × (Int64) × (Int64) × (Nat → Int64) × (Int64) × (Int64) × (Int64) × (Int64) × (Nat → Int32) × (Int32) × (Int32) × (Int32) × (Int32) × (Int32) × (Int32) × (Int32) × (Int32) × (Int32) × (Int32) × (Int32) × (Nat → Int64) × (Nat → Int64) × (Int64) × (Int64)
def mg_thrown (S : MS) : Int32 := S.1
def ms_thrown (S : MS) (v : Int32) : MS := (v, S.2)
def mg_up (S : MS) : Int64 := S.2.1
def ms_up (S : MS) (v : Int64) : MS := (S.1, v, S.2.2)
def mg_under (S : MS) : Int64 := S.2.2.1
def ms_under (S : MS) (v : Int64) : MS := (S.1, S.2.1, v, S.2.2.2)
def mg_row (S : MS) : Nat → Int64 := S.2.2.2.1
def ms_row (S : MS) (v : Nat → Int64) : MS := (S.1, S.2.1, S.2.2.1, v, S.2.2.2.2)
def mg_a0 (S : MS) : Int64 := S.2.2.2.2.1
def ms_a0 (S : MS) (v : Int64) : MS := (S.1, S.2.1, S.2.2.1, S.2.2.2.1, v, S.2.2.2.2.2)
def mg_b0 (S : MS) : Int64 := S.2.2.2.2.2.1
def ms_b0 (S : MS) (v : Int64) : MS := (S.1, S.2.1, S.2.2.1, S.2.2.2.1, S.2.2.2.2.1, v, S.2.2.2.2.2.2)
def mg_c0 (S : MS) : Int64 := S.2.2.2.2.2.2.1
def ms_c0 (S : MS) (v : Int64) : MS := (S.1, S.2.1, S.2.2.1, S.2.2.2.1, S.2.2.2.2.1, S.2.2.2.2.2.1, v, S.2.2.2.2.2.2.2)
def mg_d0 (S : MS) : Int64 := S.2.2.2.2.2.2.2.1
def ms_d0 (S : MS) (v : Int64) : MS := (S.1, S.2.1, S.2.2.1, S.2.2.2.1, S.2.2.2.2.1, S.2.2.2.2.2.1, S.2.2.2.2.2.2.1, v, S.2.2.2.2.2.2.2.2)
def mg_tape (S : MS) : Nat → Int32 := S.2.2.2.2.2.2.2.2.1
def ms_tape (S : MS) (v : Nat → Int32) : MS := (S.1, S.2.1, S.2.2.1, S.2.2.2.1, S.2.2.2.2.1, S.2.2.2.2.2.1, S.2.2.2.2.2.2.1, S.2.2.2.2.2.2.2.1, v, S.2.2.2.2.2.2.2.2.2)
def mg_taped (S : MS) : Int32 := S.2.2.2.2.2.2.2.2.2.1
def ms_taped (S : MS) (v : Int32) : MS := (S.1, S.2.1, S.2.2.1, S.2.2.2.1, S.2.2.2.2.1, S.2.2.2.2.2.1, S.2.2.2.2.2.2.1, S.2.2.2.2.2.2.2.1, S.2.2.2.2.2.2.2.2.1, v, S.2.2.2.2.2.2.2.2.2.2)
def mg_length (S : MS) : Int32 := S.2.2.2.2.2.2.2.2.2.2.1
def ms_length (S : MS) (v : Int32) : MS := (S.1, S.2.1, S.2.2.1, S.2.2.2.1, S.2.2.2.2.1, S.2.2.2.2.2.1, S.2.2.2.2.2.2.1, S.2.2.2.2.2.2.2.1, S.2.2.2.2.2.2.2.2.1, S.2.2.2.2.2.2.2.2.2.1, v, S.2.2.2.2.2.2.2.2.2.2.2)
def mg_at (S : MS) : Int32 := S.2.2.2.2.2.2.2.2.2.2.2.1
def ms_at (S : MS) (v : Int32) : MS := (S.1, S.2.1, S.2.2.1, S.2.2.2.1, S.2.2.2.2.1, S.2.2.2.2.2.1, S.2.2.2.2.2.2.1, S.2.2.2.2.2.2.2.1, S.2.2.2.2.2.2.2.2.1, S.2.2.2.2.2.2.2.2.2.1, S.2.2.2.2.2.2.2.2.2.2.1, v, S.2.2.2.2.2.2.2.2.2.2.2.2)
def mg_from (S : MS) : Int32 := S.2.2.2.2.2.2.2.2.2.2.2.2.1
def ms_from (S : MS) (v : Int32) : MS := (S.1, S.2.1, S.2.2.1, S.2.2.2.1, S.2.2.2.2.1, S.2.2.2.2.2.1, S.2.2.2.2.2.2.1, S.2.2.2.2.2.2.2.1, S.2.2.2.2.2.2.2.2.1, S.2.2.2.2.2.2.2.2.2.1, S.2.2.2.2.2.2.2.2.2.2.1, S.2.2.2.2.2.2.2.2.2.2.2.1, v, S.2.2.2.2.2.2.2.2.2.2.2.2.2)
def mg_fault (S : MS) : Int32 := S.2.2.2.2.2.2.2.2.2.2.2.2.2.1
def ms_fault (S : MS) (v : Int32) : MS := (S.1, S.2.1, S.2.2.1, S.2.2.2.1, S.2.2.2.2.1, S.2.2.2.2.2.1, S.2.2.2.2.2.2.1, S.2.2.2.2.2.2.2.1, S.2.2.2.2.2.2.2.2.1, S.2.2.2.2.2.2.2.2.2.1, S.2.2.2.2.2.2.2.2.2.2.1, S.2.2.2.2.2.2.2.2.2.2.2.1, S.2.2.2.2.2.2.2.2.2.2.2.2.1, v, S.2.2.2.2.2.2.2.2.2.2.2.2.2.2)
def mg_beyond (S : MS) : Int32 := S.2.2.2.2.2.2.2.2.2.2.2.2.2.2.1
def ms_beyond (S : MS) (v : Int32) : MS := (S.1, S.2.1, S.2.2.1, S.2.2.2.1, S.2.2.2.2.1, S.2.2.2.2.2.1, S.2.2.2.2.2.2.1, S.2.2.2.2.2.2.2.1, S.2.2.2.2.2.2.2.2.1, S.2.2.2.2.2.2.2.2.2.1, S.2.2.2.2.2.2.2.2.2.2.1, S.2.2.2.2.2.2.2.2.2.2.2.1, S.2.2.2.2.2.2.2.2.2.2.2.2.1, S.2.2.2.2.2.2.2.2.2.2.2.2.2.1, v, S.2.2.2.2.2.2.2.2.2.2.2.2.2.2.2)
def mg_open (S : MS) : Int32 := S.2.2.2.2.2.2.2.2.2.2.2.2.2.2.2.1
def ms_open (S : MS) (v : Int32) : MS := (S.1, S.2.1, S.2.2.1, S.2.2.2.1, S.2.2.2.2.1, S.2.2.2.2.2.1, S.2.2.2.2.2.2.1, S.2.2.2.2.2.2.2.1, S.2.2.2.2.2.2.2.2.1, S.2.2.2.2.2.2.2.2.2.1, S.2.2.2.2.2.2.2.2.2.2.1, S.2.2.2.2.2.2.2.2.2.2.2.1, S.2.2.2.2.2.2.2.2.2.2.2.2.1, S.2.2.2.2.2.2.2.2.2.2.2.2.2.1, S.2.2.2.2.2.2.2.2.2.2.2.2.2.2.1, v, S.2.2.2.2.2.2.2.2.2.2.2.2.2.2.2.2)
def mg_sums (S : MS) : Int32 := S.2.2.2.2.2.2.2.2.2.2.2.2.2.2.2.2.1
def ms_sums (S : MS) (v : Int32) : MS := (S.1, S.2.1, S.2.2.1, S.2.2.2.1, S.2.2.2.2.1, S.2.2.2.2.2.1, S.2.2.2.2.2.2.1, S.2.2.2.2.2.2.2.1, S.2.2.2.2.2.2.2.2.1, S.2.2.2.2.2.2.2.2.2.1, S.2.2.2.2.2.2.2.2.2.2.1, S.2.2.2.2.2.2.2.2.2.2.2.1, S.2.2.2.2.2.2.2.2.2.2.2.2.1, S.2.2.2.2.2.2.2.2.2.2.2.2.2.1, S.2.2.2.2.2.2.2.2.2.2.2.2.2.2.1, S.2.2.2.2.2.2.2.2.2.2.2.2.2.2.2.1, v, S.2.2.2.2.2.2.2.2.2.2.2.2.2.2.2.2.2)
def mg_often (S : MS) : Int32 := S.2.2.2.2.2.2.2.2.2.2.2.2.2.2.2.2.2.1
def ms_often (S : MS) (v : Int32) : MS := (S.1, S.2.1, S.2.2.1, S.2.2.2.1, S.2.2.2.2.1, S.2.2.2.2.2.1, S.2.2.2.2.2.2.1, S.2.2.2.2.2.2.2.1, S.2.2.2.2.2.2.2.2.1, S.2.2.2.2.2.2.2.2.2.1, S.2.2.2.2.2.2.2.2.2.2.1, S.2.2.2.2.2.2.2.2.2.2.2.1, S.2.2.2.2.2.2.2.2.2.2.2.2.1, S.2.2.2.2.2.2.2.2.2.2.2.2.2.1, S.2.2.2.2.2.2.2.2.2.2.2.2.2.2.1, S.2.2.2.2.2.2.2.2.2.2.2.2.2.2.2.1, S.2.2.2.2.2.2.2.2.2.2.2.2.2.2.2.2.1, v, S.2.2.2.2.2.2.2.2.2.2.2.2.2.2.2.2.2.2)
def mg_oftenNow (S : MS) : Int32 := S.2.2.2.2.2.2.2.2.2.2.2.2.2.2.2.2.2.2.1
def ms_oftenNow (S : MS) (v : Int32) : MS := (S.1, S.2.1, S.2.2.1, S.2.2.2.1, S.2.2.2.2.1, S.2.2.2.2.2.1, S.2.2.2.2.2.2.1, S.2.2.2.2.2.2.2.1, S.2.2.2.2.2.2.2.2.1, S.2.2.2.2.2.2.2.2.2.1, S.2.2.2.2.2.2.2.2.2.2.1, S.2.2.2.2.2.2.2.2.2.2.2.1, S.2.2.2.2.2.2.2.2.2.2.2.2.1, S.2.2.2.2.2.2.2.2.2.2.2.2.2.1, S.2.2.2.2.2.2.2.2.2.2.2.2.2.2.1, S.2.2.2.2.2.2.2.2.2.2.2.2.2.2.2.1, S.2.2.2.2.2.2.2.2.2.2.2.2.2.2.2.2.1, S.2.2.2.2.2.2.2.2.2.2.2.2.2.2.2.2.2.1, v, S.2.2.2.2.2.2.2.2.2.2.2.2.2.2.2.2.2.2.2)
def mg_piled (S : MS) : Int32 := S.2.2.2.2.2.2.2.2.2.2.2.2.2.2.2.2.2.2.2.1
def ms_piled (S : MS) (v : Int32) : MS := (S.1, S.2.1, S.2.2.1, S.2.2.2.1, S.2.2.2.2.1, S.2.2.2.2.2.1, S.2.2.2.2.2.2.1, S.2.2.2.2.2.2.2.1, S.2.2.2.2.2.2.2.2.1, S.2.2.2.2.2.2.2.2.2.1, S.2.2.2.2.2.2.2.2.2.2.1, S.2.2.2.2.2.2.2.2.2.2.2.1, S.2.2.2.2.2.2.2.2.2.2.2.2.1, S.2.2.2.2.2.2.2.2.2.2.2.2.2.1, S.2.2.2.2.2.2.2.2.2.2.2.2.2.2.1, S.2.2.2.2.2.2.2.2.2.2.2.2.2.2.2.1, S.2.2.2.2.2.2.2.2.2.2.2.2.2.2.2.2.1, S.2.2.2.2.2.2.2.2.2.2.2.2.2.2.2.2.2.1, S.2.2.2.2.2.2.2.2.2.2.2.2.2.2.2.2.2.2.1, v, S.2.2.2.2.2.2.2.2.2.2.2.2.2.2.2.2.2.2.2.2)
def mg_tops (S : MS) : Nat → Int64 := S.2.2.2.2.2.2.2.2.2.2.2.2.2.2.2.2.2.2.2.2.1
def ms_tops (S : MS) (v : Nat → Int64) : MS := (S.1, S.2.1, S.2.2.1, S.2.2.2.1, S.2.2.2.2.1, S.2.2.2.2.2.1, S.2.2.2.2.2.2.1, S.2.2.2.2.2.2.2.1, S.2.2.2.2.2.2.2.2.1, S.2.2.2.2.2.2.2.2.2.1, S.2.2.2.2.2.2.2.2.2.2.1, S.2.2.2.2.2.2.2.2.2.2.2.1, S.2.2.2.2.2.2.2.2.2.2.2.2.1, S.2.2.2.2.2.2.2.2.2.2.2.2.2.1, S.2.2.2.2.2.2.2.2.2.2.2.2.2.2.1, S.2.2.2.2.2.2.2.2.2.2.2.2.2.2.2.1, S.2.2.2.2.2.2.2.2.2.2.2.2.2.2.2.2.1, S.2.2.2.2.2.2.2.2.2.2.2.2.2.2.2.2.2.1, S.2.2.2.2.2.2.2.2.2.2.2.2.2.2.2.2.2.2.1, S.2.2.2.2.2.2.2.2.2.2.2.2.2.2.2.2.2.2.2.1, v, S.2.2.2.2.2.2.2.2.2.2.2.2.2.2.2.2.2.2.2.2.2)
def mg_bottoms (S : MS) : Nat → Int64 := S.2.2.2.2.2.2.2.2.2.2.2.2.2.2.2.2.2.2.2.2.2.1
def ms_bottoms (S : MS) (v : Nat → Int64) : MS := (S.1, S.2.1, S.2.2.1, S.2.2.2.1, S.2.2.2.2.1, S.2.2.2.2.2.1, S.2.2.2.2.2.2.1, S.2.2.2.2.2.2.2.1, S.2.2.2.2.2.2.2.2.1, S.2.2.2.2.2.2.2.2.2.1, S.2.2.2.2.2.2.2.2.2.2.1, S.2.2.2.2.2.2.2.2.2.2.2.1, S.2.2.2.2.2.2.2.2.2.2.2.2.1, S.2.2.2.2.2.2.2.2.2.2.2.2.2.1, S.2.2.2.2.2.2.2.2.2.2.2.2.2.2.1, S.2.2.2.2.2.2.2.2.2.2.2.2.2.2.2.1, S.2.2.2.2.2.2.2.2.2.2.2.2.2.2.2.2.1, S.2.2.2.2.2.2.2.2.2.2.2.2.2.2.2.2.2.1, S.2.2.2.2.2.2.2.2.2.2.2.2.2.2.2.2.2.2.1, S.2.2.2.2.2.2.2.2.2.2.2.2.2.2.2.2.2.2.2.1, S.2.2.2.2.2.2.2.2.2.2.2.2.2.2.2.2.2.2.2.2.1, v, S.2.2.2.2.2.2.2.2.2.2.2.2.2.2.2.2.2.2.2.2.2.2)
def mg_toldUp (S : MS) : Int64 := S.2.2.2.2.2.2.2.2.2.2.2.2.2.2.2.2.2.2.2.2.2.2.1
def ms_toldUp (S : MS) (v : Int64) : MS := (S.1, S.2.1, S.2.2.1, S.2.2.2.1, S.2.2.2.2.1, S.2.2.2.2.2.1, S.2.2.2.2.2.2.1, S.2.2.2.2.2.2.2.1, S.2.2.2.2.2.2.2.2.1, S.2.2.2.2.2.2.2.2.2.1, S.2.2.2.2.2.2.2.2.2.2.1, S.2.2.2.2.2.2.2.2.2.2.2.1, S.2.2.2.2.2.2.2.2.2.2.2.2.1, S.2.2.2.2.2.2.2.2.2.2.2.2.2.1, S.2.2.2.2.2.2.2.2.2.2.2.2.2.2.1, S.2.2.2.2.2.2.2.2.2.2.2.2.2.2.2.1, S.2.2.2.2.2.2.2.2.2.2.2.2.2.2.2.2.1, S.2.2.2.2.2.2.2.2.2.2.2.2.2.2.2.2.2.1, S.2.2.2.2.2.2.2.2.2.2.2.2.2.2.2.2.2.2.1, S.2.2.2.2.2.2.2.2.2.2.2.2.2.2.2.2.2.2.2.1, S.2.2.2.2.2.2.2.2.2.2.2.2.2.2.2.2.2.2.2.2.1, S.2.2.2.2.2.2.2.2.2.2.2.2.2.2.2.2.2.2.2.2.2.1, v, S.2.2.2.2.2.2.2.2.2.2.2.2.2.2.2.2.2.2.2.2.2.2.2)
def mg_toldUnder (S : MS) : Int64 := S.2.2.2.2.2.2.2.2.2.2.2.2.2.2.2.2.2.2.2.2.2.2.2
def ms_toldUnder (S : MS) (v : Int64) : MS := (S.1, S.2.1, S.2.2.1, S.2.2.2.1, S.2.2.2.2.1, S.2.2.2.2.2.1, S.2.2.2.2.2.2.1, S.2.2.2.2.2.2.2.1, S.2.2.2.2.2.2.2.2.1, S.2.2.2.2.2.2.2.2.2.1, S.2.2.2.2.2.2.2.2.2.2.1, S.2.2.2.2.2.2.2.2.2.2.2.1, S.2.2.2.2.2.2.2.2.2.2.2.2.1, S.2.2.2.2.2.2.2.2.2.2.2.2.2.1, S.2.2.2.2.2.2.2.2.2.2.2.2.2.2.1, S.2.2.2.2.2.2.2.2.2.2.2.2.2.2.2.1, S.2.2.2.2.2.2.2.2.2.2.2.2.2.2.2.2.1, S.2.2.2.2.2.2.2.2.2.2.2.2.2.2.2.2.2.1, S.2.2.2.2.2.2.2.2.2.2.2.2.2.2.2.2.2.2.1, S.2.2.2.2.2.2.2.2.2.2.2.2.2.2.2.2.2.2.2.1, S.2.2.2.2.2.2.2.2.2.2.2.2.2.2.2.2.2.2.2.2.1, S.2.2.2.2.2.2.2.2.2.2.2.2.2.2.2.2.2.2.2.2.2.1, S.2.2.2.2.2.2.2.2.2.2.2.2.2.2.2.2.2.2.2.2.2.2.1, v)
abbrev CS : Type := (Int32) × (Int32) × (Int32) × (Int32) × (Nat → Int32) × (Nat → Int64) × (Int32) × (Nat → Int64) × (Nat → Int32) × (Int32) × (Int32) × (Int32) × (Int32) × (Int32) × (Int32) × (Int32) × (Int32) × (Nat → Int32) × (Nat → Int32) × (Nat → Int32) × (Int32) × (Int32)
def cg_ma (S : CS) : Int32 := S.1
def cs_ma (S : CS) (v : Int32) : CS := (v, S.2)
def cg_mb (S : CS) : Int32 := S.2.1
def cs_mb (S : CS) (v : Int32) : CS := (S.1, v, S.2.2)
def cg_mc (S : CS) : Int32 := S.2.2.1
def cs_mc (S : CS) (v : Int32) : CS := (S.1, S.2.1, v, S.2.2.2)
def cg_md (S : CS) : Int32 := S.2.2.2.1
def cs_md (S : CS) (v : Int32) : CS := (S.1, S.2.1, S.2.2.1, v, S.2.2.2.2)
def cg_numbers (S : CS) : Nat → Int32 := S.2.2.2.2.1
def cs_numbers (S : CS) (v : Nat → Int32) : CS := (S.1, S.2.1, S.2.2.1, S.2.2.2.1, v, S.2.2.2.2.2)
def cg_sizes (S : CS) : Nat → Int64 := S.2.2.2.2.2.1
def cs_sizes (S : CS) (v : Nat → Int64) : CS := (S.1, S.2.1, S.2.2.1, S.2.2.2.1, S.2.2.2.2.1, v, S.2.2.2.2.2.2)
def cg_cmany (S : CS) : Int32 := S.2.2.2.2.2.2.1
def cs_cmany (S : CS) (v : Int32) : CS := (S.1, S.2.1, S.2.2.1, S.2.2.2.1, S.2.2.2.2.1, S.2.2.2.2.2.1, v, S.2.2.2.2.2.2.2)
def cg_values (S : CS) : Nat → Int64 := S.2.2.2.2.2.2.2.1
def cs_values (S : CS) (v : Nat → Int64) : CS := (S.1, S.2.1, S.2.2.1, S.2.2.2.1, S.2.2.2.2.1, S.2.2.2.2.2.1, S.2.2.2.2.2.2.1, v, S.2.2.2.2.2.2.2.2)
def cg_tape (S : CS) : Nat → Int32 := S.2.2.2.2.2.2.2.2.1
def cs_tape (S : CS) (v : Nat → Int32) : CS := (S.1, S.2.1, S.2.2.1, S.2.2.2.1, S.2.2.2.2.1, S.2.2.2.2.2.1, S.2.2.2.2.2.2.1, S.2.2.2.2.2.2.2.1, v, S.2.2.2.2.2.2.2.2.2)
def cg_tapeLength (S : CS) : Int32 := S.2.2.2.2.2.2.2.2.2.1
def cs_tapeLength (S : CS) (v : Int32) : CS := (S.1, S.2.1, S.2.2.1, S.2.2.2.1, S.2.2.2.2.1, S.2.2.2.2.2.1, S.2.2.2.2.2.2.1, S.2.2.2.2.2.2.2.1, S.2.2.2.2.2.2.2.2.1, v, S.2.2.2.2.2.2.2.2.2.2)
def cg_sumsTold (S : CS) : Int32 := S.2.2.2.2.2.2.2.2.2.2.1
def cs_sumsTold (S : CS) (v : Int32) : CS := (S.1, S.2.1, S.2.2.1, S.2.2.2.1, S.2.2.2.2.1, S.2.2.2.2.2.1, S.2.2.2.2.2.2.1, S.2.2.2.2.2.2.2.1, S.2.2.2.2.2.2.2.2.1, S.2.2.2.2.2.2.2.2.2.1, v, S.2.2.2.2.2.2.2.2.2.2.2)
def cg_inLatest (S : CS) : Int32 := S.2.2.2.2.2.2.2.2.2.2.2.1
def cs_inLatest (S : CS) (v : Int32) : CS := (S.1, S.2.1, S.2.2.1, S.2.2.2.1, S.2.2.2.2.1, S.2.2.2.2.2.1, S.2.2.2.2.2.2.1, S.2.2.2.2.2.2.2.1, S.2.2.2.2.2.2.2.2.1, S.2.2.2.2.2.2.2.2.2.1, S.2.2.2.2.2.2.2.2.2.2.1, v, S.2.2.2.2.2.2.2.2.2.2.2.2)
def cg_at (S : CS) : Int32 := S.2.2.2.2.2.2.2.2.2.2.2.2.1
def cs_at (S : CS) (v : Int32) : CS := (S.1, S.2.1, S.2.2.1, S.2.2.2.1, S.2.2.2.2.1, S.2.2.2.2.2.1, S.2.2.2.2.2.2.1, S.2.2.2.2.2.2.2.1, S.2.2.2.2.2.2.2.2.1, S.2.2.2.2.2.2.2.2.2.1, S.2.2.2.2.2.2.2.2.2.2.1, S.2.2.2.2.2.2.2.2.2.2.2.1, v, S.2.2.2.2.2.2.2.2.2.2.2.2.2)
def cg_token (S : CS) : Int32 := S.2.2.2.2.2.2.2.2.2.2.2.2.2.1
def cs_token (S : CS) (v : Int32) : CS := (S.1, S.2.1, S.2.2.1, S.2.2.2.1, S.2.2.2.2.1, S.2.2.2.2.2.1, S.2.2.2.2.2.2.1, S.2.2.2.2.2.2.2.1, S.2.2.2.2.2.2.2.2.1, S.2.2.2.2.2.2.2.2.2.1, S.2.2.2.2.2.2.2.2.2.2.1, S.2.2.2.2.2.2.2.2.2.2.2.1, S.2.2.2.2.2.2.2.2.2.2.2.2.1, v, S.2.2.2.2.2.2.2.2.2.2.2.2.2.2)
def cg_refused (S : CS) : Int32 := S.2.2.2.2.2.2.2.2.2.2.2.2.2.2.1
def cs_refused (S : CS) (v : Int32) : CS := (S.1, S.2.1, S.2.2.1, S.2.2.2.1, S.2.2.2.2.1, S.2.2.2.2.2.1, S.2.2.2.2.2.2.1, S.2.2.2.2.2.2.2.1, S.2.2.2.2.2.2.2.2.1, S.2.2.2.2.2.2.2.2.2.1, S.2.2.2.2.2.2.2.2.2.2.1, S.2.2.2.2.2.2.2.2.2.2.2.1, S.2.2.2.2.2.2.2.2.2.2.2.2.1, S.2.2.2.2.2.2.2.2.2.2.2.2.2.1, v, S.2.2.2.2.2.2.2.2.2.2.2.2.2.2.2)
def cg_exceeded (S : CS) : Int32 := S.2.2.2.2.2.2.2.2.2.2.2.2.2.2.2.1
def cs_exceeded (S : CS) (v : Int32) : CS := (S.1, S.2.1, S.2.2.1, S.2.2.2.1, S.2.2.2.2.1, S.2.2.2.2.2.1, S.2.2.2.2.2.2.1, S.2.2.2.2.2.2.2.1, S.2.2.2.2.2.2.2.2.1, S.2.2.2.2.2.2.2.2.2.1, S.2.2.2.2.2.2.2.2.2.2.1, S.2.2.2.2.2.2.2.2.2.2.2.1, S.2.2.2.2.2.2.2.2.2.2.2.2.1, S.2.2.2.2.2.2.2.2.2.2.2.2.2.1, S.2.2.2.2.2.2.2.2.2.2.2.2.2.2.1, v, S.2.2.2.2.2.2.2.2.2.2.2.2.2.2.2.2)
def cg_sawSums (S : CS) : Int32 := S.2.2.2.2.2.2.2.2.2.2.2.2.2.2.2.2.1
def cs_sawSums (S : CS) (v : Int32) : CS := (S.1, S.2.1, S.2.2.1, S.2.2.2.1, S.2.2.2.2.1, S.2.2.2.2.2.1, S.2.2.2.2.2.2.1, S.2.2.2.2.2.2.2.1, S.2.2.2.2.2.2.2.2.1, S.2.2.2.2.2.2.2.2.2.1, S.2.2.2.2.2.2.2.2.2.2.1, S.2.2.2.2.2.2.2.2.2.2.2.1, S.2.2.2.2.2.2.2.2.2.2.2.2.1, S.2.2.2.2.2.2.2.2.2.2.2.2.2.1, S.2.2.2.2.2.2.2.2.2.2.2.2.2.2.1, S.2.2.2.2.2.2.2.2.2.2.2.2.2.2.2.1, v, S.2.2.2.2.2.2.2.2.2.2.2.2.2.2.2.2.2)
def cg_kinds (S : CS) : Nat → Int32 := S.2.2.2.2.2.2.2.2.2.2.2.2.2.2.2.2.2.1
def cs_kinds (S : CS) (v : Nat → Int32) : CS := (S.1, S.2.1, S.2.2.1, S.2.2.2.1, S.2.2.2.2.1, S.2.2.2.2.2.1, S.2.2.2.2.2.2.1, S.2.2.2.2.2.2.2.1, S.2.2.2.2.2.2.2.2.1, S.2.2.2.2.2.2.2.2.2.1, S.2.2.2.2.2.2.2.2.2.2.1, S.2.2.2.2.2.2.2.2.2.2.2.1, S.2.2.2.2.2.2.2.2.2.2.2.2.1, S.2.2.2.2.2.2.2.2.2.2.2.2.2.1, S.2.2.2.2.2.2.2.2.2.2.2.2.2.2.1, S.2.2.2.2.2.2.2.2.2.2.2.2.2.2.2.1, S.2.2.2.2.2.2.2.2.2.2.2.2.2.2.2.2.1, v, S.2.2.2.2.2.2.2.2.2.2.2.2.2.2.2.2.2.2)
def cg_places (S : CS) : Nat → Int32 := S.2.2.2.2.2.2.2.2.2.2.2.2.2.2.2.2.2.2.1
def cs_places (S : CS) (v : Nat → Int32) : CS := (S.1, S.2.1, S.2.2.1, S.2.2.2.1, S.2.2.2.2.1, S.2.2.2.2.2.1, S.2.2.2.2.2.2.1, S.2.2.2.2.2.2.2.1, S.2.2.2.2.2.2.2.2.1, S.2.2.2.2.2.2.2.2.2.1, S.2.2.2.2.2.2.2.2.2.2.1, S.2.2.2.2.2.2.2.2.2.2.2.1, S.2.2.2.2.2.2.2.2.2.2.2.2.1, S.2.2.2.2.2.2.2.2.2.2.2.2.2.1, S.2.2.2.2.2.2.2.2.2.2.2.2.2.2.1, S.2.2.2.2.2.2.2.2.2.2.2.2.2.2.2.1, S.2.2.2.2.2.2.2.2.2.2.2.2.2.2.2.2.1, S.2.2.2.2.2.2.2.2.2.2.2.2.2.2.2.2.2.1, v, S.2.2.2.2.2.2.2.2.2.2.2.2.2.2.2.2.2.2.2)
def cg_nums (S : CS) : Nat → Int32 := S.2.2.2.2.2.2.2.2.2.2.2.2.2.2.2.2.2.2.2.1
def cs_nums (S : CS) (v : Nat → Int32) : CS := (S.1, S.2.1, S.2.2.1, S.2.2.2.1, S.2.2.2.2.1, S.2.2.2.2.2.1, S.2.2.2.2.2.2.1, S.2.2.2.2.2.2.2.1, S.2.2.2.2.2.2.2.2.1, S.2.2.2.2.2.2.2.2.2.1, S.2.2.2.2.2.2.2.2.2.2.1, S.2.2.2.2.2.2.2.2.2.2.2.1, S.2.2.2.2.2.2.2.2.2.2.2.2.1, S.2.2.2.2.2.2.2.2.2.2.2.2.2.1, S.2.2.2.2.2.2.2.2.2.2.2.2.2.2.1, S.2.2.2.2.2.2.2.2.2.2.2.2.2.2.2.1, S.2.2.2.2.2.2.2.2.2.2.2.2.2.2.2.2.1, S.2.2.2.2.2.2.2.2.2.2.2.2.2.2.2.2.2.1, S.2.2.2.2.2.2.2.2.2.2.2.2.2.2.2.2.2.2.1, v, S.2.2.2.2.2.2.2.2.2.2.2.2.2.2.2.2.2.2.2.2)
def cg_tlength (S : CS) : Int32 := S.2.2.2.2.2.2.2.2.2.2.2.2.2.2.2.2.2.2.2.2.1
def cs_tlength (S : CS) (v : Int32) : CS := (S.1, S.2.1, S.2.2.1, S.2.2.2.1, S.2.2.2.2.1, S.2.2.2.2.2.1, S.2.2.2.2.2.2.1, S.2.2.2.2.2.2.2.1, S.2.2.2.2.2.2.2.2.1, S.2.2.2.2.2.2.2.2.2.1, S.2.2.2.2.2.2.2.2.2.2.1, S.2.2.2.2.2.2.2.2.2.2.2.1, S.2.2.2.2.2.2.2.2.2.2.2.2.1, S.2.2.2.2.2.2.2.2.2.2.2.2.2.1, S.2.2.2.2.2.2.2.2.2.2.2.2.2.2.1, S.2.2.2.2.2.2.2.2.2.2.2.2.2.2.2.1, S.2.2.2.2.2.2.2.2.2.2.2.2.2.2.2.2.1, S.2.2.2.2.2.2.2.2.2.2.2.2.2.2.2.2.2.1, S.2.2.2.2.2.2.2.2.2.2.2.2.2.2.2.2.2.2.1, S.2.2.2.2.2.2.2.2.2.2.2.2.2.2.2.2.2.2.2.1, v, S.2.2.2.2.2.2.2.2.2.2.2.2.2.2.2.2.2.2.2.2.2)
def cg_tmany (S : CS) : Int32 := S.2.2.2.2.2.2.2.2.2.2.2.2.2.2.2.2.2.2.2.2.2
def cs_tmany (S : CS) (v : Int32) : CS := (S.1, S.2.1, S.2.2.1, S.2.2.2.1, S.2.2.2.2.1, S.2.2.2.2.2.1, S.2.2.2.2.2.2.1, S.2.2.2.2.2.2.2.1, S.2.2.2.2.2.2.2.2.1, S.2.2.2.2.2.2.2.2.2.1, S.2.2.2.2.2.2.2.2.2.2.1, S.2.2.2.2.2.2.2.2.2.2.2.1, S.2.2.2.2.2.2.2.2.2.2.2.2.1, S.2.2.2.2.2.2.2.2.2.2.2.2.2.1, S.2.2.2.2.2.2.2.2.2.2.2.2.2.2.1, S.2.2.2.2.2.2.2.2.2.2.2.2.2.2.2.1, S.2.2.2.2.2.2.2.2.2.2.2.2.2.2.2.2.1, S.2.2.2.2.2.2.2.2.2.2.2.2.2.2.2.2.2.1, S.2.2.2.2.2.2.2.2.2.2.2.2.2.2.2.2.2.2.1, S.2.2.2.2.2.2.2.2.2.2.2.2.2.2.2.2.2.2.2.1, S.2.2.2.2.2.2.2.2.2.2.2.2.2.2.2.2.2.2.2.2.1, v)
/-- what the worlds stand on: the tables' numbers, the classes of the rows, the addresses, the first address that is ours -/
abbrev Ev : Type := va_G × (Nat → ClassId) × (Nat → Nat) × Nat
/-- the fractions: the latest one's address, all addresses, what they hold -/
abbrev Gh : Type := Nat × List Nat × (Nat → Int64 × Int64)
def frE (f : Nat → Int64 × Int64) : Nat → va_E := fun a => .inr (1, [.long (f a).1, .long (f a).2])
def wx (K : Ev) (C : CS) (M : MS) (o : Nat → Int64) (la : Nat) : va_W := [
  ((K.2.2.1 0), .inr (5, [.ref (K.2.2.1 1), .ref (K.2.2.1 2), .ref (K.2.2.1 5), .ref (K.2.2.1 6), .ref (K.2.2.1 7), .int (cg_tapeLength C), .ref la, .int (cg_sumsTold C), .int (cg_inLatest C)])),
  ((K.2.2.1 1), .inr (2, [.int (cg_ma C), .int (cg_mb C), .int (cg_mc C), .int (cg_md C)])),
  ((K.2.2.1 2), .inr (0, [.ref (K.2.2.1 3), .ref (K.2.2.1 4), .int (cg_cmany C)])),
  ((K.2.2.1 3), .inl (K.2.1 2, 500, .inl (cg_numbers C))),
  ((K.2.2.1 4), .inl (K.2.1 0, 500, .inr (.inl (cg_sizes C)))),
  ((K.2.2.1 5), .inl (K.2.1 0, 500, .inr (.inl (cg_values C)))),
  ((K.2.2.1 6), .inl (K.2.1 1, 300, .inl (cg_tape C))),
  ((K.2.2.1 7), .inr (3, [.ref (K.2.2.1 8), .ref (K.2.2.1 1), .ref (K.2.2.1 18), .int (cg_at C), .int (cg_token C), .int (cg_refused C), .int (cg_exceeded C), .int (cg_sawSums C)])),
  ((K.2.2.1 8), .inr (4, [.ref (K.2.2.1 6), .ref (K.2.2.1 9), .ref (K.2.2.1 10), .ref (K.2.2.1 11), .int (cg_tlength C), .int (cg_tmany C)])),
  ((K.2.2.1 9), .inl (K.2.1 2, 301, .inl (cg_kinds C))),
  ((K.2.2.1 10), .inl (K.2.1 2, 301, .inl (cg_places C))),
  ((K.2.2.1 11), .inl (K.2.1 2, 301, .inl (cg_nums C))),
  ((K.2.2.1 12), .inr (6, [.int (mg_thrown M), .long (mg_up M), .long (mg_under M), .ref (K.2.2.1 13), .long (mg_a0 M), .long (mg_b0 M), .long (mg_c0 M), .long (mg_d0 M), .ref (K.2.2.1 14), .int (mg_taped M), .int (mg_length M), .int (mg_at M), .int (mg_from M), .int (mg_fault M), .int (mg_beyond M), .int (mg_open M), .int (mg_sums M), .int (mg_often M), .int (mg_oftenNow M), .int (mg_piled M), .ref (K.2.2.1 15), .ref (K.2.2.1 16), .long (mg_toldUp M), .long (mg_toldUnder M)])),
  ((K.2.2.1 13), .inl (K.2.1 0, 1000, .inr (.inl (mg_row M)))),
  ((K.2.2.1 14), .inl (K.2.1 1, 300, .inl (mg_tape M))),
  ((K.2.2.1 15), .inl (K.2.1 0, 300, .inr (.inl (mg_tops M)))),
  ((K.2.2.1 16), .inl (K.2.1 0, 300, .inr (.inl (mg_bottoms M)))),
  ((K.2.2.1 17), .inl (K.2.1 0, 1, .inr (.inl o)))]
def wd (K : Ev) (C : CS) (M : MS) (o : Nat → Int64) (g : Gh) : va_W := wx K C M o g.1 ++ va_pl g.2.1 (frE g.2.2)
def inA (K : Ev) : Nat → Prop := fun q => K.2.2.2 ≤ q
def tysOf (K : Ev) : List (ClassId × FieldType) := [(K.2.1 0, .long), (K.2.1 1, .byte), (K.2.1 2, .int)]
/-- the words s, saw, phi -/
def lenS : List Nat := [1, 3, 3]
def bytS : List (List Int32) := [[115], [115, 97, 119], [112, 104, 105]]
/-- what stands below: the words' cells, two statics of the JDK -/
def SF (K : Ev) (U : State) : Prop := vk_S 3 lenS bytS (fun i => K.2.2.1 (20 + i)) (fun i => K.2.2.1 (30 + i)) (inA K) U U.heap ∧ va_Z "java/lang/String" "COMPACT_STRINGS" "Z" (.int 1) (inA K) U U.heap ∧ va_Zq "jdk/internal/util/Preconditions" "SIOOBE_FORMATTER" "Ljava/util/function/BiFunction;" (inA K) U U.heap ∧ vk_R RX4 62 "s" (K.2.2.1 20) U ∧ vk_R RX4 68 "saw" (K.2.2.1 21) U ∧ vk_R RX4 70 "phi" (K.2.2.1 22) U
theorem SF.same {K : Ev} {u U : State} (hv : u.vm = U.vm) (hh : u.heap = U.heap) (h : SF K u) : SF K U := by
  obtain ⟨h1, h2, h3, h4, h5, h6⟩ := h
  have hal : u.vm.Alike U.vm := by rw [hv]; exact Vm.Alike.refl U.vm
  rw [hh] at h1 h2 h3
  exact ⟨h1.moved hal, h2.moved hal, h3.moved hal, h4.same hv.symm, h5.same hv.symm, h6.same hv.symm⟩
theorem SF.pass {K : Ev} {s U : State} {H : Heap} {locs : List Loc} (h : SF K s) (hS : va_S (inA K) s.heap H locs) (hh : U.heap = H) (hW : s.WarmedH U.vm) : SF K U := by
  obtain ⟨h1, h2, h3, h4, h5, h6⟩ := h
  rw [SF, hh]
  exact ⟨(h1.kept hS.2.1).moved hW.alike, (h2.kept hS.2.1).moved hW.alike, (h3.kept hS.2.1).moved hW.alike, h4.warm hW, h5.warm hW, h6.warm hW⟩
/-- start of a method that has the words alone -/
def qS (K : Ev) (av : List Value) : Array Value → State → Prop := fun v U => v = av.toArray ∧ NW U ∧ SF K U
theorem qS.blind (K : Ev) (av : List Value) : FrameBlind (qS K av) := fun _ _ _ _ h => ⟨h.1, NW.same rfl h.2.1, SF.same rfl rfl h.2.2⟩
/-- start and end of a method that has the world -/
def qH (K : Ev) (av : List Value) (C : CS) (M : MS) (o : Nat → Int64) (g : Gh) : Array Value → State → Prop := fun v U => v = av.toArray ∧ NW U ∧ va_P K.1 vwCl (wd K C M o g) U.heap ∧ va_K K.1 vwCl (tysOf K) U ∧ va_D (inA K) (wd K C M o g) ∧ SF K U
def qR (K : Ev) (rv : Option Value) (C : CS) (M : MS) (o : Nat → Int64) (g : Gh) : Array Value → State → Outcome → State → Prop := fun _ st oc t => oc = .returned rv ∧ va_P K.1 vwCl (wd K C M o g) t.heap ∧ va_D (inA K) (wd K C M o g) ∧ va_F (inA K) st t
theorem qH.blind (K : Ev) (av : List Value) (C : CS) (M : MS) (o : Nat → Int64) (g : Gh) : FrameBlind (qH K av C M o g) := fun a U gg mk h => ⟨h.1, NW.same rfl h.2.1, h.2.2.1, va_K.moved (u := U) (U := U.calling gg mk a) (Vm.Alike.refl U.vm) h.2.2.2.1, h.2.2.2.2.1, SF.same rfl rfl h.2.2.2.2.2⟩
section HCALL
variable {p : Program} {l : Launch} {e : Env} {R : Room} {s : State} {m : MethodId} {args : Array Value} {below : List Frame} {meth : Method} {c : Code} {H : Heap} {locs : List Loc} {cells slots : Nat} {Q : State → Prop}
variable {cc : ByteArray} {pc nL : Nat} {ls : Array Slot} {rest st0 : List Value} {own : String} {Ts : List Cond}
theorem hs_join {K : Ev} {st₀ t T' : State} {L : List Loc} (hS : va_S (inA K) s.heap H locs) (h0 : st₀.heap = H) (e1 : T'.heap = t.heap) (hF : va_F (inA K) st₀ t) (hL : ∀ q ∈ L, inA K q.base) : va_S (inA K) s.heap T'.heap (locs ++ L) := by
  obtain ⟨hz, hk⟩ := hF
  rw [h0] at hz hk
  refine ⟨Nat.le_trans hS.1 (by rw [e1]; exact hz), fun q h1 h2 => ?_, fun q hq => ?_⟩
  · rw [e1, hk q (Nat.lt_of_lt_of_le h1 hS.1) h2]; exact hS.2.1 q h1 h2
  · rcases List.mem_append.mp hq with h | h
    · exact hS.2.2 q h
    · exact hL q h
/-- a call of a method that has the world and makes no cell -/
theorem hc_V {y : MethodName} {bytes : ByteArray} {maxL n index : Nat} {ret : Option FieldType} {ws : List Cond} {rm : Room} {av : List Value} {rv : Option Value} {Cn : String} {b : Addr} {K : Ev} {C C' : CS} {M M' : MS} {o o' : Nat → Int64} {g g' : Gh}
    (S : CallFix p m c cc nL s args Ts own) (N : NW s) (F : SF K s) (hK : va_K K.1 vwCl (tysOf K) s) (hP : va_P K.1 vwCl (wd K C M o g) H) (hD : va_D (inA K) (wd K C M o g)) (hS : va_S (inA K) s.heap H locs)
    (hM : Met l y ws rm (qH K (.ref b :: av) C M o g) (qR K rv C' M' o' g') 0 0 (inA K)) (cw : CallW R s args own Cn index y bytes maxL ret ws rm 0 0 n) (hrc : ∃ cell : Cell, H[b]? = some cell ∧ cell.vm.isStatics = false ∧ s.vm.findClass Cn = some cell.cls)
    (hn : av.length = n) (hsize : ls.size = nL) (hst : st0 = av.reverse ++ .ref b :: rest) (hW : (rest.map fun v => v.category).sum ≤ 8) (hdg : decode cc pc = .ok (.invokevirtual index, 3)) (hc : cells ≤ R.cells) (hs : slots ≤ R.slots)
    (kk : ∀ (H1 : Heap) (locs1 : List Loc), va_P K.1 vwCl (wd K C' M' o' g') H1 → va_D (inA K) (wd K C' M' o' g') → va_S (inA K) s.heap H1 locs1 → W p l e R s m args below meth c H1 locs1 cells slots Q (F0 m (pc + 3) ls (rv.toList ++ rest))) : W p l e R s m args below meth c H locs cells slots Q (F0 m pc ls st0) := by
  have hr := va_runV (H := H) (locs := locs) (cells := cells) (slots := slots) (below := below) (e := e) (meth := meth) (g := F0 m pc ls st0) (rest := rest) S hM cw ⟨qH.blind K _ C M o g, hrc, fun U hU hw => ⟨rfl, NW.warm hw N, by rw [hU]; exact hP, va_K.moved hw.alike hK, hD, SF.pass F hS hU hw⟩⟩ rfl hn hsize hst (lv_room hW) hdg ⟨hc, hs⟩
  intro T hT X
  obtain ⟨v, st₀, t, T', L, h0, X', hL, e1, e2, ⟨hv, hP1, hD1, hF⟩, st⟩ := hr T hT X
  cases hv
  obtain ⟨t2, a1, b1⟩ := kk T'.heap (locs ++ L) (by rw [e1]; exact hP1) hD1 (hs_join hS h0 e1 hF hL) T' rfl X'
  exact ⟨t2, st t2 a1, b1⟩
theorem hc_S {y : MethodName} {bytes : ByteArray} {maxL n index : Nat} {ret : Option FieldType} {ws : List Cond} {rm : Room} {av : List Value} {rv : Option Value} {K : Ev} {C C' : CS} {M M' : MS} {o o' : Nat → Int64} {g g' : Gh}
    (S : CallFix p m c cc nL s args Ts own) (N : NW s) (F : SF K s) (hK : va_K K.1 vwCl (tysOf K) s) (hP : va_P K.1 vwCl (wd K C M o g) H) (hD : va_D (inA K) (wd K C M o g)) (hS : va_S (inA K) s.heap H locs)
    (hM : Met l y ws rm (qH K av C M o g) (qR K rv C' M' o' g') 0 0 (inA K)) (cw : CallB R s args own index y bytes maxL ret ws rm 0 0 n ∧ (Cond.static y).before args s = true)
    (hn : av.length = n) (hsize : ls.size = nL) (hst : st0 = av.reverse ++ rest) (hW : (rest.map fun v => v.category).sum ≤ 8) (hdg : decode cc pc = .ok (.invokestatic index, 3)) (hc : cells ≤ R.cells) (hs : slots ≤ R.slots)
    (kk : ∀ (H1 : Heap) (locs1 : List Loc), va_P K.1 vwCl (wd K C' M' o' g') H1 → va_D (inA K) (wd K C' M' o' g') → va_S (inA K) s.heap H1 locs1 → W p l e R s m args below meth c H1 locs1 cells slots Q (F0 m (pc + 3) ls (rv.toList ++ rest))) : W p l e R s m args below meth c H locs cells slots Q (F0 m pc ls st0) := by
  have hr := va_runS (H := H) (locs := locs) (cells := cells) (slots := slots) (below := below) (e := e) (meth := meth) (g := F0 m pc ls st0) (rest := rest) S hM cw ⟨qH.blind K _ C M o g, fun U hU hw => ⟨rfl, NW.warm hw N, by rw [hU]; exact hP, va_K.moved hw.alike hK, hD, SF.pass F hS hU hw⟩⟩ rfl hn hsize hst (lv_room hW) hdg ⟨hc, hs⟩
  intro T hT X
  obtain ⟨v, st₀, t, T', L, h0, X', hL, e1, e2, ⟨hv, hP1, hD1, hF⟩, st⟩ := hr T hT X
  cases hv
  obtain ⟨t2, a1, b1⟩ := kk T'.heap (locs ++ L) (by rw [e1]; exact hP1) hD1 (hs_join hS h0 e1 hF hL) T' rfl X'
  exact ⟨t2, st t2 a1, b1⟩
/-- calls of methods that have the words alone and touch no cell -/
theorem sc_V {y : MethodName} {bytes : ByteArray} {maxL n index : Nat} {ret : Option FieldType} {ws : List Cond} {rm : Room} {av : List Value} {rv : Value} {Cn : String} {b : Addr} {K : Ev}
    (S : CallFix p m c cc nL s args Ts own) (N : NW s) (F : SF K s) (hS : va_S (inA K) s.heap H locs) (hM : Met l y ws rm (qS K (.ref b :: av)) (qP rv) 0 0 (fun _ => False)) (cw : CallW R s args own Cn index y bytes maxL ret ws rm 0 0 n) (hrc : ∃ cell : Cell, H[b]? = some cell ∧ cell.vm.isStatics = false ∧ s.vm.findClass Cn = some cell.cls)
    (hn : av.length = n) (hsize : ls.size = nL) (hst : st0 = av.reverse ++ .ref b :: rest) (hW : (rest.map fun v => v.category).sum ≤ 8) (hdg : decode cc pc = .ok (.invokevirtual index, 3)) (hc : cells ≤ R.cells) (hs : slots ≤ R.slots)
    (kk : W p l e R s m args below meth c H locs cells slots Q (F0 m (pc + 3) ls (rv :: rest))) : W p l e R s m args below meth c H locs cells slots Q (F0 m pc ls st0) := by
  have hr := W.runV (H := H) (locs := locs) (cells := cells) (slots := slots) (below := below) (e := e) (meth := meth) (g := F0 m pc ls st0) (rest := rest) S hM cw ⟨qS.blind K _, hrc, fun U hU hw => ⟨rfl, NW.warm hw N, SF.pass F hS hU hw⟩⟩ rfl hn hsize hst (lv_room hW) hdg ⟨hc, hs⟩
  intro T hT X
  obtain ⟨v, st₀, t, T', L, h0, X', hL, e1, ⟨hv, hh⟩, st⟩ := hr T hT X
  cases hv
  obtain ⟨t2, a1, b1⟩ := kk T' (by rw [e1, hh, h0]) (Stand.forget X' (fun q h => (hL q h).elim))
  exact ⟨t2, st t2 a1, b1⟩
theorem sc_S {y : MethodName} {bytes : ByteArray} {maxL n index : Nat} {ret : Option FieldType} {ws : List Cond} {rm : Room} {av : List Value} {rv : Option Value} {K : Ev}
    (S : CallFix p m c cc nL s args Ts own) (N : NW s) (F : SF K s) (hS : va_S (inA K) s.heap H locs) (hM : Met l y ws rm (qS K av) (fun _ st oc t => oc = .returned rv ∧ t.heap = st.heap) 0 0 (fun _ => False)) (cw : CallB R s args own index y bytes maxL ret ws rm 0 0 n ∧ (Cond.static y).before args s = true)
    (hn : av.length = n) (hsize : ls.size = nL) (hst : st0 = av.reverse ++ rest) (hW : (rest.map fun v => v.category).sum ≤ 8) (hdg : decode cc pc = .ok (.invokestatic index, 3)) (hc : cells ≤ R.cells) (hs : slots ≤ R.slots)
    (kk : W p l e R s m args below meth c H locs cells slots Q (F0 m (pc + 3) ls (rv.toList ++ rest))) : W p l e R s m args below meth c H locs cells slots Q (F0 m pc ls st0) := by
  have hr := W.runS (H := H) (locs := locs) (cells := cells) (slots := slots) (below := below) (e := e) (meth := meth) (g := F0 m pc ls st0) (rest := rest) S hM cw ⟨qS.blind K _, fun U hU hw => ⟨rfl, NW.warm hw N, SF.pass F hS hU hw⟩⟩ rfl hn hsize hst (lv_room hW) hdg ⟨hc, hs⟩
  intro T hT X
  obtain ⟨v, st₀, t, T', L, h0, X', hL, e1, ⟨hv, hh⟩, st⟩ := hr T hT X
  cases hv
  obtain ⟨t2, a1, b1⟩ := kk T' (by rw [e1, hh, h0]) (Stand.forget X' (fun q h => (hL q h).elim))
  exact ⟨t2, st t2 a1, b1⟩
end HCALL
