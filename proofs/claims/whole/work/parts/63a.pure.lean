abbrev rs_LineReader_addRuns_WHITE_RESTS_WHITE_BLOCKS : Type := ob_LineReader × (Nat → Int32)
def lp_LineReader_addRuns_WHITE_RESTS_WHITE_BLOCKS_3 (N : Nat) (v0 : Int32) : Nat → Int32 → ob_LineReader → (Nat → Int32) → Option (ob_LineReader × (Nat → Int32))
  | 0, _, _, _ => none
  | n + 1, w4_4, o_5, g_6 => if (64 : Int32) ≤ w4_4 then (some (o_5, g_6)) else (if dk_in w4_4 64 then ((ex_LineReader_addWord N o_5 g_6 v0 (tb_Coder_WHITE_RESTS w4_4.toNatClampNeg) w4_4).bind (fun u_15 => (lp_LineReader_addRuns_WHITE_RESTS_WHITE_BLOCKS_3 N v0 n) (w4_4 + 1) u_15.1 u_15.2)) else none)
def lp_LineReader_addRuns_WHITE_RESTS_WHITE_BLOCKS_30c2 (N : Nat) (v0 : Int32) : Nat → Int32 → ob_LineReader → (Nat → Int32) → Option (ob_LineReader × (Nat → Int32))
  | 0, _, _, _ => none
  | n + 1, w4_23, o_24, g_25 => if (27 : Int32) ≤ w4_23 then (some (o_24, g_25)) else (if dk_in w4_23 27 then ((ex_LineReader_addWord N o_24 g_25 v0 (tb_Coder_WHITE_BLOCKS w4_23.toNatClampNeg) (64 + (64 * w4_23))).bind (fun u_34 => (lp_LineReader_addRuns_WHITE_RESTS_WHITE_BLOCKS_30c2 N v0 n) (w4_23 + 1) u_34.1 u_34.2)) else none)
def lp_LineReader_addRuns_WHITE_RESTS_WHITE_BLOCKS_63d3 (N : Nat) (v0 : Int32) : Nat → Int32 → ob_LineReader → (Nat → Int32) → Option (ob_LineReader × (Nat → Int32))
  | 0, _, _, _ => none
  | n + 1, w4_42, o_43, g_44 => if (13 : Int32) ≤ w4_42 then (some (o_43, g_44)) else (if dk_in w4_42 13 then ((ex_LineReader_addWord N o_43 g_44 v0 (tb_Coder_LONG_BLOCKS w4_42.toNatClampNeg) (1792 + (64 * w4_42))).bind (fun u_53 => (lp_LineReader_addRuns_WHITE_RESTS_WHITE_BLOCKS_63d3 N v0 n) (w4_42 + 1) u_53.1 u_53.2)) else none)
def ex_LineReader_addRuns_WHITE_RESTS_WHITE_BLOCKS (N : Nat) (o_this : ob_LineReader) (g_tree : Nat → Int32) (v0 : Int32) : Option rs_LineReader_addRuns_WHITE_RESTS_WHITE_BLOCKS :=
  (lp_LineReader_addRuns_WHITE_RESTS_WHITE_BLOCKS_3 N v0 N (0 : Int32) o_this g_tree).bind (fun out_13 => (lp_LineReader_addRuns_WHITE_RESTS_WHITE_BLOCKS_30c2 N v0 N (0 : Int32) out_13.1 out_13.2).bind (fun out_32 => (lp_LineReader_addRuns_WHITE_RESTS_WHITE_BLOCKS_63d3 N v0 N (0 : Int32) out_32.1 out_32.2).bind (fun out_51 => some (out_51.1, out_51.2))))

abbrev rs_LineReader_addRuns_BLACK_RESTS_BLACK_BLOCKS : Type := ob_LineReader × (Nat → Int32)
def lp_LineReader_addRuns_BLACK_RESTS_BLACK_BLOCKS_3 (N : Nat) (v0 : Int32) : Nat → Int32 → ob_LineReader → (Nat → Int32) → Option (ob_LineReader × (Nat → Int32))
  | 0, _, _, _ => none
  | n + 1, w4_4, o_5, g_6 => if (64 : Int32) ≤ w4_4 then (some (o_5, g_6)) else (if dk_in w4_4 64 then ((ex_LineReader_addWord N o_5 g_6 v0 (tb_Coder_BLACK_RESTS w4_4.toNatClampNeg) w4_4).bind (fun u_15 => (lp_LineReader_addRuns_BLACK_RESTS_BLACK_BLOCKS_3 N v0 n) (w4_4 + 1) u_15.1 u_15.2)) else none)
def lp_LineReader_addRuns_BLACK_RESTS_BLACK_BLOCKS_30c2 (N : Nat) (v0 : Int32) : Nat → Int32 → ob_LineReader → (Nat → Int32) → Option (ob_LineReader × (Nat → Int32))
  | 0, _, _, _ => none
  | n + 1, w4_23, o_24, g_25 => if (27 : Int32) ≤ w4_23 then (some (o_24, g_25)) else (if dk_in w4_23 27 then ((ex_LineReader_addWord N o_24 g_25 v0 (tb_Coder_BLACK_BLOCKS w4_23.toNatClampNeg) (64 + (64 * w4_23))).bind (fun u_34 => (lp_LineReader_addRuns_BLACK_RESTS_BLACK_BLOCKS_30c2 N v0 n) (w4_23 + 1) u_34.1 u_34.2)) else none)
def lp_LineReader_addRuns_BLACK_RESTS_BLACK_BLOCKS_63d3 (N : Nat) (v0 : Int32) : Nat → Int32 → ob_LineReader → (Nat → Int32) → Option (ob_LineReader × (Nat → Int32))
  | 0, _, _, _ => none
  | n + 1, w4_42, o_43, g_44 => if (13 : Int32) ≤ w4_42 then (some (o_43, g_44)) else (if dk_in w4_42 13 then ((ex_LineReader_addWord N o_43 g_44 v0 (tb_Coder_LONG_BLOCKS w4_42.toNatClampNeg) (1792 + (64 * w4_42))).bind (fun u_53 => (lp_LineReader_addRuns_BLACK_RESTS_BLACK_BLOCKS_63d3 N v0 n) (w4_42 + 1) u_53.1 u_53.2)) else none)
def ex_LineReader_addRuns_BLACK_RESTS_BLACK_BLOCKS (N : Nat) (o_this : ob_LineReader) (g_tree : Nat → Int32) (v0 : Int32) : Option rs_LineReader_addRuns_BLACK_RESTS_BLACK_BLOCKS :=
  (lp_LineReader_addRuns_BLACK_RESTS_BLACK_BLOCKS_3 N v0 N (0 : Int32) o_this g_tree).bind (fun out_13 => (lp_LineReader_addRuns_BLACK_RESTS_BLACK_BLOCKS_30c2 N v0 N (0 : Int32) out_13.1 out_13.2).bind (fun out_32 => (lp_LineReader_addRuns_BLACK_RESTS_BLACK_BLOCKS_63d3 N v0 N (0 : Int32) out_32.1 out_32.2).bind (fun out_51 => some (out_51.1, out_51.2))))
