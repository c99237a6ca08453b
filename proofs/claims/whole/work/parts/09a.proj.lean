def vSh (g : GS) : (Nat → Nat → Int32) × (Nat → Int32) × (Nat → Int32) := (z_items g, z_lanes g, z_sizes g)
def vSea (g : GS) : (Nat → Int32) × (Nat → Nat → Int32) × (Nat → Nat → Int32) × Int32 × (Nat → Int32) × (Nat → Int32) × (Nat → Nat → Int32) × Int64 × Int32 := (z_weights g, z_levels g, z_heads g, z_ssize g, z_rules g, z_rivers g, z_orders g, z_loss g, z_stale g)
def vGa (g : GS) : (Nat → Option Nat) × Int32 × (Nat → Nat) × (Nat → Int32) × (Nat → Int32) × (Nat → Int32) × Nat := (z_ga g, z_rsize g, z_gk g, z_gm g, z_gh g, z_gf g, z_gn g)
def vSp (g : GS) : (Nat → Int32) × (Nat → Int32) × (Nat → Int32) × Int32 := (z_fmin g, z_fpass g, z_inTurn g, z_fsize g)
def vTr (g : GS) : (Nat → Int32) × Int32 := (z_numbers g, z_tlen g)
def uSh (m : GM) : (Nat → Int32) × (Nat → Int32) × (Nat → Int32) := (m_lane m, m_many m, m_item m)
def uSea (m : GM) : (Int32) × (Nat → Int32) × (Nat → Int32) × (Nat → Int32) × (Nat → Int32) := (m_worlds m, m_weight m, m_sea m, m_rule m, m_river m)
def uGa (m : GM) : (Int32) × (Nat → Int32) × (Nat → Int32) × (Nat → Int32) := (m_gates m, m_minutes m, m_hand m, m_hasFailed m)
def uSp (m : GM) : (Int32) × (Nat → Int32) × (Nat → Int32) := (m_ships m, m_comes m, m_takes m)
def uTr (m : GM) : (Nat → Int32) × (Int32) := (m_trace m, m_traced m)
theorem zz_finding_finding (g : GS) (v : Int32) : z_finding (sz_finding g v) = v := rfl
theorem zz_items_finding (g : GS) (v : Int32) : z_items (sz_finding g v) = z_items g := rfl
theorem zz_lanes_finding (g : GS) (v : Int32) : z_lanes (sz_finding g v) = z_lanes g := rfl
theorem zz_sizes_finding (g : GS) (v : Int32) : z_sizes (sz_finding g v) = z_sizes g := rfl
theorem zz_weights_finding (g : GS) (v : Int32) : z_weights (sz_finding g v) = z_weights g := rfl
theorem zz_levels_finding (g : GS) (v : Int32) : z_levels (sz_finding g v) = z_levels g := rfl
theorem zz_heads_finding (g : GS) (v : Int32) : z_heads (sz_finding g v) = z_heads g := rfl
theorem zz_ssize_finding (g : GS) (v : Int32) : z_ssize (sz_finding g v) = z_ssize g := rfl
theorem zz_rules_finding (g : GS) (v : Int32) : z_rules (sz_finding g v) = z_rules g := rfl
theorem zz_rivers_finding (g : GS) (v : Int32) : z_rivers (sz_finding g v) = z_rivers g := rfl
theorem zz_orders_finding (g : GS) (v : Int32) : z_orders (sz_finding g v) = z_orders g := rfl
theorem zz_now_finding (g : GS) (v : Int32) : z_now (sz_finding g v) = z_now g := rfl
theorem zz_then_finding (g : GS) (v : Int32) : z_then (sz_finding g v) = z_then g := rfl
theorem zz_loss_finding (g : GS) (v : Int32) : z_loss (sz_finding g v) = z_loss g := rfl
theorem zz_stale_finding (g : GS) (v : Int32) : z_stale (sz_finding g v) = z_stale g := rfl
theorem zz_ga_finding (g : GS) (v : Int32) : z_ga (sz_finding g v) = z_ga g := rfl
theorem zz_free_finding (g : GS) (v : Int32) : z_free (sz_finding g v) = z_free g := rfl
theorem zz_rsize_finding (g : GS) (v : Int32) : z_rsize (sz_finding g v) = z_rsize g := rfl
theorem zz_fmin_finding (g : GS) (v : Int32) : z_fmin (sz_finding g v) = z_fmin g := rfl
theorem zz_fpass_finding (g : GS) (v : Int32) : z_fpass (sz_finding g v) = z_fpass g := rfl
theorem zz_inTurn_finding (g : GS) (v : Int32) : z_inTurn (sz_finding g v) = z_inTurn g := rfl
theorem zz_fsize_finding (g : GS) (v : Int32) : z_fsize (sz_finding g v) = z_fsize g := rfl
theorem zz_numbers_finding (g : GS) (v : Int32) : z_numbers (sz_finding g v) = z_numbers g := rfl
theorem zz_tlen_finding (g : GS) (v : Int32) : z_tlen (sz_finding g v) = z_tlen g := rfl
theorem zz_gk_finding (g : GS) (v : Int32) : z_gk (sz_finding g v) = z_gk g := rfl
theorem zz_gm_finding (g : GS) (v : Int32) : z_gm (sz_finding g v) = z_gm g := rfl
theorem zz_gh_finding (g : GS) (v : Int32) : z_gh (sz_finding g v) = z_gh g := rfl
theorem zz_gf_finding (g : GS) (v : Int32) : z_gf (sz_finding g v) = z_gf g := rfl
theorem zz_gn_finding (g : GS) (v : Int32) : z_gn (sz_finding g v) = z_gn g := rfl
theorem vSh_finding (g : GS) (v : Int32) : vSh (sz_finding g v) = vSh g := rfl
theorem vSea_finding (g : GS) (v : Int32) : vSea (sz_finding g v) = vSea g := rfl
theorem vGa_finding (g : GS) (v : Int32) : vGa (sz_finding g v) = vGa g := rfl
theorem vSp_finding (g : GS) (v : Int32) : vSp (sz_finding g v) = vSp g := rfl
theorem vTr_finding (g : GS) (v : Int32) : vTr (sz_finding g v) = vTr g := rfl
theorem zz_finding_items (g : GS) (v : (Nat → Nat → Int32)) : z_finding (sz_items g v) = z_finding g := rfl
theorem zz_items_items (g : GS) (v : (Nat → Nat → Int32)) : z_items (sz_items g v) = v := rfl
theorem zz_lanes_items (g : GS) (v : (Nat → Nat → Int32)) : z_lanes (sz_items g v) = z_lanes g := rfl
theorem zz_sizes_items (g : GS) (v : (Nat → Nat → Int32)) : z_sizes (sz_items g v) = z_sizes g := rfl
theorem zz_weights_items (g : GS) (v : (Nat → Nat → Int32)) : z_weights (sz_items g v) = z_weights g := rfl
theorem zz_levels_items (g : GS) (v : (Nat → Nat → Int32)) : z_levels (sz_items g v) = z_levels g := rfl
theorem zz_heads_items (g : GS) (v : (Nat → Nat → Int32)) : z_heads (sz_items g v) = z_heads g := rfl
theorem zz_ssize_items (g : GS) (v : (Nat → Nat → Int32)) : z_ssize (sz_items g v) = z_ssize g := rfl
theorem zz_rules_items (g : GS) (v : (Nat → Nat → Int32)) : z_rules (sz_items g v) = z_rules g := rfl
theorem zz_rivers_items (g : GS) (v : (Nat → Nat → Int32)) : z_rivers (sz_items g v) = z_rivers g := rfl
theorem zz_orders_items (g : GS) (v : (Nat → Nat → Int32)) : z_orders (sz_items g v) = z_orders g := rfl
theorem zz_now_items (g : GS) (v : (Nat → Nat → Int32)) : z_now (sz_items g v) = z_now g := rfl
theorem zz_then_items (g : GS) (v : (Nat → Nat → Int32)) : z_then (sz_items g v) = z_then g := rfl
theorem zz_loss_items (g : GS) (v : (Nat → Nat → Int32)) : z_loss (sz_items g v) = z_loss g := rfl
theorem zz_stale_items (g : GS) (v : (Nat → Nat → Int32)) : z_stale (sz_items g v) = z_stale g := rfl
theorem zz_ga_items (g : GS) (v : (Nat → Nat → Int32)) : z_ga (sz_items g v) = z_ga g := rfl
theorem zz_free_items (g : GS) (v : (Nat → Nat → Int32)) : z_free (sz_items g v) = z_free g := rfl
theorem zz_rsize_items (g : GS) (v : (Nat → Nat → Int32)) : z_rsize (sz_items g v) = z_rsize g := rfl
theorem zz_fmin_items (g : GS) (v : (Nat → Nat → Int32)) : z_fmin (sz_items g v) = z_fmin g := rfl
theorem zz_fpass_items (g : GS) (v : (Nat → Nat → Int32)) : z_fpass (sz_items g v) = z_fpass g := rfl
theorem zz_inTurn_items (g : GS) (v : (Nat → Nat → Int32)) : z_inTurn (sz_items g v) = z_inTurn g := rfl
theorem zz_fsize_items (g : GS) (v : (Nat → Nat → Int32)) : z_fsize (sz_items g v) = z_fsize g := rfl
theorem zz_numbers_items (g : GS) (v : (Nat → Nat → Int32)) : z_numbers (sz_items g v) = z_numbers g := rfl
theorem zz_tlen_items (g : GS) (v : (Nat → Nat → Int32)) : z_tlen (sz_items g v) = z_tlen g := rfl
theorem zz_gk_items (g : GS) (v : (Nat → Nat → Int32)) : z_gk (sz_items g v) = z_gk g := rfl
theorem zz_gm_items (g : GS) (v : (Nat → Nat → Int32)) : z_gm (sz_items g v) = z_gm g := rfl
theorem zz_gh_items (g : GS) (v : (Nat → Nat → Int32)) : z_gh (sz_items g v) = z_gh g := rfl
theorem zz_gf_items (g : GS) (v : (Nat → Nat → Int32)) : z_gf (sz_items g v) = z_gf g := rfl
theorem zz_gn_items (g : GS) (v : (Nat → Nat → Int32)) : z_gn (sz_items g v) = z_gn g := rfl
theorem vSh_items (g : GS) (v : (Nat → Nat → Int32)) : vSh (sz_items g v) = (v, z_lanes g, z_sizes g) := rfl
theorem vSea_items (g : GS) (v : (Nat → Nat → Int32)) : vSea (sz_items g v) = vSea g := rfl
theorem vGa_items (g : GS) (v : (Nat → Nat → Int32)) : vGa (sz_items g v) = vGa g := rfl
theorem vSp_items (g : GS) (v : (Nat → Nat → Int32)) : vSp (sz_items g v) = vSp g := rfl
theorem vTr_items (g : GS) (v : (Nat → Nat → Int32)) : vTr (sz_items g v) = vTr g := rfl
theorem zz_finding_lanes (g : GS) (v : (Nat → Int32)) : z_finding (sz_lanes g v) = z_finding g := rfl
theorem zz_items_lanes (g : GS) (v : (Nat → Int32)) : z_items (sz_lanes g v) = z_items g := rfl
theorem zz_lanes_lanes (g : GS) (v : (Nat → Int32)) : z_lanes (sz_lanes g v) = v := rfl
theorem zz_sizes_lanes (g : GS) (v : (Nat → Int32)) : z_sizes (sz_lanes g v) = z_sizes g := rfl
theorem zz_weights_lanes (g : GS) (v : (Nat → Int32)) : z_weights (sz_lanes g v) = z_weights g := rfl
theorem zz_levels_lanes (g : GS) (v : (Nat → Int32)) : z_levels (sz_lanes g v) = z_levels g := rfl
theorem zz_heads_lanes (g : GS) (v : (Nat → Int32)) : z_heads (sz_lanes g v) = z_heads g := rfl
theorem zz_ssize_lanes (g : GS) (v : (Nat → Int32)) : z_ssize (sz_lanes g v) = z_ssize g := rfl
theorem zz_rules_lanes (g : GS) (v : (Nat → Int32)) : z_rules (sz_lanes g v) = z_rules g := rfl
theorem zz_rivers_lanes (g : GS) (v : (Nat → Int32)) : z_rivers (sz_lanes g v) = z_rivers g := rfl
theorem zz_orders_lanes (g : GS) (v : (Nat → Int32)) : z_orders (sz_lanes g v) = z_orders g := rfl
theorem zz_now_lanes (g : GS) (v : (Nat → Int32)) : z_now (sz_lanes g v) = z_now g := rfl
theorem zz_then_lanes (g : GS) (v : (Nat → Int32)) : z_then (sz_lanes g v) = z_then g := rfl
theorem zz_loss_lanes (g : GS) (v : (Nat → Int32)) : z_loss (sz_lanes g v) = z_loss g := rfl
theorem zz_stale_lanes (g : GS) (v : (Nat → Int32)) : z_stale (sz_lanes g v) = z_stale g := rfl
theorem zz_ga_lanes (g : GS) (v : (Nat → Int32)) : z_ga (sz_lanes g v) = z_ga g := rfl
theorem zz_free_lanes (g : GS) (v : (Nat → Int32)) : z_free (sz_lanes g v) = z_free g := rfl
theorem zz_rsize_lanes (g : GS) (v : (Nat → Int32)) : z_rsize (sz_lanes g v) = z_rsize g := rfl
theorem zz_fmin_lanes (g : GS) (v : (Nat → Int32)) : z_fmin (sz_lanes g v) = z_fmin g := rfl
theorem zz_fpass_lanes (g : GS) (v : (Nat → Int32)) : z_fpass (sz_lanes g v) = z_fpass g := rfl
theorem zz_inTurn_lanes (g : GS) (v : (Nat → Int32)) : z_inTurn (sz_lanes g v) = z_inTurn g := rfl
theorem zz_fsize_lanes (g : GS) (v : (Nat → Int32)) : z_fsize (sz_lanes g v) = z_fsize g := rfl
theorem zz_numbers_lanes (g : GS) (v : (Nat → Int32)) : z_numbers (sz_lanes g v) = z_numbers g := rfl
theorem zz_tlen_lanes (g : GS) (v : (Nat → Int32)) : z_tlen (sz_lanes g v) = z_tlen g := rfl
theorem zz_gk_lanes (g : GS) (v : (Nat → Int32)) : z_gk (sz_lanes g v) = z_gk g := rfl
theorem zz_gm_lanes (g : GS) (v : (Nat → Int32)) : z_gm (sz_lanes g v) = z_gm g := rfl
theorem zz_gh_lanes (g : GS) (v : (Nat → Int32)) : z_gh (sz_lanes g v) = z_gh g := rfl
theorem zz_gf_lanes (g : GS) (v : (Nat → Int32)) : z_gf (sz_lanes g v) = z_gf g := rfl
theorem zz_gn_lanes (g : GS) (v : (Nat → Int32)) : z_gn (sz_lanes g v) = z_gn g := rfl
theorem vSh_lanes (g : GS) (v : (Nat → Int32)) : vSh (sz_lanes g v) = (z_items g, v, z_sizes g) := rfl
theorem vSea_lanes (g : GS) (v : (Nat → Int32)) : vSea (sz_lanes g v) = vSea g := rfl
theorem vGa_lanes (g : GS) (v : (Nat → Int32)) : vGa (sz_lanes g v) = vGa g := rfl
theorem vSp_lanes (g : GS) (v : (Nat → Int32)) : vSp (sz_lanes g v) = vSp g := rfl
theorem vTr_lanes (g : GS) (v : (Nat → Int32)) : vTr (sz_lanes g v) = vTr g := rfl
theorem zz_finding_sizes (g : GS) (v : (Nat → Int32)) : z_finding (sz_sizes g v) = z_finding g := rfl
theorem zz_items_sizes (g : GS) (v : (Nat → Int32)) : z_items (sz_sizes g v) = z_items g := rfl
theorem zz_lanes_sizes (g : GS) (v : (Nat → Int32)) : z_lanes (sz_sizes g v) = z_lanes g := rfl
theorem zz_sizes_sizes (g : GS) (v : (Nat → Int32)) : z_sizes (sz_sizes g v) = v := rfl
theorem zz_weights_sizes (g : GS) (v : (Nat → Int32)) : z_weights (sz_sizes g v) = z_weights g := rfl
theorem zz_levels_sizes (g : GS) (v : (Nat → Int32)) : z_levels (sz_sizes g v) = z_levels g := rfl
theorem zz_heads_sizes (g : GS) (v : (Nat → Int32)) : z_heads (sz_sizes g v) = z_heads g := rfl
theorem zz_ssize_sizes (g : GS) (v : (Nat → Int32)) : z_ssize (sz_sizes g v) = z_ssize g := rfl
theorem zz_rules_sizes (g : GS) (v : (Nat → Int32)) : z_rules (sz_sizes g v) = z_rules g := rfl
theorem zz_rivers_sizes (g : GS) (v : (Nat → Int32)) : z_rivers (sz_sizes g v) = z_rivers g := rfl
theorem zz_orders_sizes (g : GS) (v : (Nat → Int32)) : z_orders (sz_sizes g v) = z_orders g := rfl
theorem zz_now_sizes (g : GS) (v : (Nat → Int32)) : z_now (sz_sizes g v) = z_now g := rfl
theorem zz_then_sizes (g : GS) (v : (Nat → Int32)) : z_then (sz_sizes g v) = z_then g := rfl
theorem zz_loss_sizes (g : GS) (v : (Nat → Int32)) : z_loss (sz_sizes g v) = z_loss g := rfl
theorem zz_stale_sizes (g : GS) (v : (Nat → Int32)) : z_stale (sz_sizes g v) = z_stale g := rfl
theorem zz_ga_sizes (g : GS) (v : (Nat → Int32)) : z_ga (sz_sizes g v) = z_ga g := rfl
theorem zz_free_sizes (g : GS) (v : (Nat → Int32)) : z_free (sz_sizes g v) = z_free g := rfl
theorem zz_rsize_sizes (g : GS) (v : (Nat → Int32)) : z_rsize (sz_sizes g v) = z_rsize g := rfl
theorem zz_fmin_sizes (g : GS) (v : (Nat → Int32)) : z_fmin (sz_sizes g v) = z_fmin g := rfl
theorem zz_fpass_sizes (g : GS) (v : (Nat → Int32)) : z_fpass (sz_sizes g v) = z_fpass g := rfl
theorem zz_inTurn_sizes (g : GS) (v : (Nat → Int32)) : z_inTurn (sz_sizes g v) = z_inTurn g := rfl
theorem zz_fsize_sizes (g : GS) (v : (Nat → Int32)) : z_fsize (sz_sizes g v) = z_fsize g := rfl
theorem zz_numbers_sizes (g : GS) (v : (Nat → Int32)) : z_numbers (sz_sizes g v) = z_numbers g := rfl
theorem zz_tlen_sizes (g : GS) (v : (Nat → Int32)) : z_tlen (sz_sizes g v) = z_tlen g := rfl
theorem zz_gk_sizes (g : GS) (v : (Nat → Int32)) : z_gk (sz_sizes g v) = z_gk g := rfl
theorem zz_gm_sizes (g : GS) (v : (Nat → Int32)) : z_gm (sz_sizes g v) = z_gm g := rfl
theorem zz_gh_sizes (g : GS) (v : (Nat → Int32)) : z_gh (sz_sizes g v) = z_gh g := rfl
theorem zz_gf_sizes (g : GS) (v : (Nat → Int32)) : z_gf (sz_sizes g v) = z_gf g := rfl
theorem zz_gn_sizes (g : GS) (v : (Nat → Int32)) : z_gn (sz_sizes g v) = z_gn g := rfl
theorem vSh_sizes (g : GS) (v : (Nat → Int32)) : vSh (sz_sizes g v) = (z_items g, z_lanes g, v) := rfl
theorem vSea_sizes (g : GS) (v : (Nat → Int32)) : vSea (sz_sizes g v) = vSea g := rfl
theorem vGa_sizes (g : GS) (v : (Nat → Int32)) : vGa (sz_sizes g v) = vGa g := rfl
theorem vSp_sizes (g : GS) (v : (Nat → Int32)) : vSp (sz_sizes g v) = vSp g := rfl
theorem vTr_sizes (g : GS) (v : (Nat → Int32)) : vTr (sz_sizes g v) = vTr g := rfl
theorem zz_finding_weights (g : GS) (v : (Nat → Int32)) : z_finding (sz_weights g v) = z_finding g := rfl
theorem zz_items_weights (g : GS) (v : (Nat → Int32)) : z_items (sz_weights g v) = z_items g := rfl
theorem zz_lanes_weights (g : GS) (v : (Nat → Int32)) : z_lanes (sz_weights g v) = z_lanes g := rfl
theorem zz_sizes_weights (g : GS) (v : (Nat → Int32)) : z_sizes (sz_weights g v) = z_sizes g := rfl
theorem zz_weights_weights (g : GS) (v : (Nat → Int32)) : z_weights (sz_weights g v) = v := rfl
theorem zz_levels_weights (g : GS) (v : (Nat → Int32)) : z_levels (sz_weights g v) = z_levels g := rfl
theorem zz_heads_weights (g : GS) (v : (Nat → Int32)) : z_heads (sz_weights g v) = z_heads g := rfl
theorem zz_ssize_weights (g : GS) (v : (Nat → Int32)) : z_ssize (sz_weights g v) = z_ssize g := rfl
theorem zz_rules_weights (g : GS) (v : (Nat → Int32)) : z_rules (sz_weights g v) = z_rules g := rfl
theorem zz_rivers_weights (g : GS) (v : (Nat → Int32)) : z_rivers (sz_weights g v) = z_rivers g := rfl
theorem zz_orders_weights (g : GS) (v : (Nat → Int32)) : z_orders (sz_weights g v) = z_orders g := rfl
theorem zz_now_weights (g : GS) (v : (Nat → Int32)) : z_now (sz_weights g v) = z_now g := rfl
theorem zz_then_weights (g : GS) (v : (Nat → Int32)) : z_then (sz_weights g v) = z_then g := rfl
theorem zz_loss_weights (g : GS) (v : (Nat → Int32)) : z_loss (sz_weights g v) = z_loss g := rfl
theorem zz_stale_weights (g : GS) (v : (Nat → Int32)) : z_stale (sz_weights g v) = z_stale g := rfl
theorem zz_ga_weights (g : GS) (v : (Nat → Int32)) : z_ga (sz_weights g v) = z_ga g := rfl
theorem zz_free_weights (g : GS) (v : (Nat → Int32)) : z_free (sz_weights g v) = z_free g := rfl
theorem zz_rsize_weights (g : GS) (v : (Nat → Int32)) : z_rsize (sz_weights g v) = z_rsize g := rfl
theorem zz_fmin_weights (g : GS) (v : (Nat → Int32)) : z_fmin (sz_weights g v) = z_fmin g := rfl
theorem zz_fpass_weights (g : GS) (v : (Nat → Int32)) : z_fpass (sz_weights g v) = z_fpass g := rfl
theorem zz_inTurn_weights (g : GS) (v : (Nat → Int32)) : z_inTurn (sz_weights g v) = z_inTurn g := rfl
theorem zz_fsize_weights (g : GS) (v : (Nat → Int32)) : z_fsize (sz_weights g v) = z_fsize g := rfl
theorem zz_numbers_weights (g : GS) (v : (Nat → Int32)) : z_numbers (sz_weights g v) = z_numbers g := rfl
theorem zz_tlen_weights (g : GS) (v : (Nat → Int32)) : z_tlen (sz_weights g v) = z_tlen g := rfl
theorem zz_gk_weights (g : GS) (v : (Nat → Int32)) : z_gk (sz_weights g v) = z_gk g := rfl
theorem zz_gm_weights (g : GS) (v : (Nat → Int32)) : z_gm (sz_weights g v) = z_gm g := rfl
theorem zz_gh_weights (g : GS) (v : (Nat → Int32)) : z_gh (sz_weights g v) = z_gh g := rfl
theorem zz_gf_weights (g : GS) (v : (Nat → Int32)) : z_gf (sz_weights g v) = z_gf g := rfl
theorem zz_gn_weights (g : GS) (v : (Nat → Int32)) : z_gn (sz_weights g v) = z_gn g := rfl
theorem vSh_weights (g : GS) (v : (Nat → Int32)) : vSh (sz_weights g v) = vSh g := rfl
theorem vSea_weights (g : GS) (v : (Nat → Int32)) : vSea (sz_weights g v) = (v, z_levels g, z_heads g, z_ssize g, z_rules g, z_rivers g, z_orders g, z_loss g, z_stale g) := rfl
theorem vGa_weights (g : GS) (v : (Nat → Int32)) : vGa (sz_weights g v) = vGa g := rfl
theorem vSp_weights (g : GS) (v : (Nat → Int32)) : vSp (sz_weights g v) = vSp g := rfl
theorem vTr_weights (g : GS) (v : (Nat → Int32)) : vTr (sz_weights g v) = vTr g := rfl
theorem zz_finding_levels (g : GS) (v : (Nat → Nat → Int32)) : z_finding (sz_levels g v) = z_finding g := rfl
theorem zz_items_levels (g : GS) (v : (Nat → Nat → Int32)) : z_items (sz_levels g v) = z_items g := rfl
theorem zz_lanes_levels (g : GS) (v : (Nat → Nat → Int32)) : z_lanes (sz_levels g v) = z_lanes g := rfl
theorem zz_sizes_levels (g : GS) (v : (Nat → Nat → Int32)) : z_sizes (sz_levels g v) = z_sizes g := rfl
theorem zz_weights_levels (g : GS) (v : (Nat → Nat → Int32)) : z_weights (sz_levels g v) = z_weights g := rfl
theorem zz_levels_levels (g : GS) (v : (Nat → Nat → Int32)) : z_levels (sz_levels g v) = v := rfl
theorem zz_heads_levels (g : GS) (v : (Nat → Nat → Int32)) : z_heads (sz_levels g v) = z_heads g := rfl
theorem zz_ssize_levels (g : GS) (v : (Nat → Nat → Int32)) : z_ssize (sz_levels g v) = z_ssize g := rfl
theorem zz_rules_levels (g : GS) (v : (Nat → Nat → Int32)) : z_rules (sz_levels g v) = z_rules g := rfl
theorem zz_rivers_levels (g : GS) (v : (Nat → Nat → Int32)) : z_rivers (sz_levels g v) = z_rivers g := rfl
theorem zz_orders_levels (g : GS) (v : (Nat → Nat → Int32)) : z_orders (sz_levels g v) = z_orders g := rfl
theorem zz_now_levels (g : GS) (v : (Nat → Nat → Int32)) : z_now (sz_levels g v) = z_now g := rfl
theorem zz_then_levels (g : GS) (v : (Nat → Nat → Int32)) : z_then (sz_levels g v) = z_then g := rfl
theorem zz_loss_levels (g : GS) (v : (Nat → Nat → Int32)) : z_loss (sz_levels g v) = z_loss g := rfl
theorem zz_stale_levels (g : GS) (v : (Nat → Nat → Int32)) : z_stale (sz_levels g v) = z_stale g := rfl
theorem zz_ga_levels (g : GS) (v : (Nat → Nat → Int32)) : z_ga (sz_levels g v) = z_ga g := rfl
theorem zz_free_levels (g : GS) (v : (Nat → Nat → Int32)) : z_free (sz_levels g v) = z_free g := rfl
theorem zz_rsize_levels (g : GS) (v : (Nat → Nat → Int32)) : z_rsize (sz_levels g v) = z_rsize g := rfl
theorem zz_fmin_levels (g : GS) (v : (Nat → Nat → Int32)) : z_fmin (sz_levels g v) = z_fmin g := rfl
theorem zz_fpass_levels (g : GS) (v : (Nat → Nat → Int32)) : z_fpass (sz_levels g v) = z_fpass g := rfl
theorem zz_inTurn_levels (g : GS) (v : (Nat → Nat → Int32)) : z_inTurn (sz_levels g v) = z_inTurn g := rfl
theorem zz_fsize_levels (g : GS) (v : (Nat → Nat → Int32)) : z_fsize (sz_levels g v) = z_fsize g := rfl
theorem zz_numbers_levels (g : GS) (v : (Nat → Nat → Int32)) : z_numbers (sz_levels g v) = z_numbers g := rfl
theorem zz_tlen_levels (g : GS) (v : (Nat → Nat → Int32)) : z_tlen (sz_levels g v) = z_tlen g := rfl
theorem zz_gk_levels (g : GS) (v : (Nat → Nat → Int32)) : z_gk (sz_levels g v) = z_gk g := rfl
theorem zz_gm_levels (g : GS) (v : (Nat → Nat → Int32)) : z_gm (sz_levels g v) = z_gm g := rfl
theorem zz_gh_levels (g : GS) (v : (Nat → Nat → Int32)) : z_gh (sz_levels g v) = z_gh g := rfl
theorem zz_gf_levels (g : GS) (v : (Nat → Nat → Int32)) : z_gf (sz_levels g v) = z_gf g := rfl
theorem zz_gn_levels (g : GS) (v : (Nat → Nat → Int32)) : z_gn (sz_levels g v) = z_gn g := rfl
theorem vSh_levels (g : GS) (v : (Nat → Nat → Int32)) : vSh (sz_levels g v) = vSh g := rfl
theorem vSea_levels (g : GS) (v : (Nat → Nat → Int32)) : vSea (sz_levels g v) = (z_weights g, v, z_heads g, z_ssize g, z_rules g, z_rivers g, z_orders g, z_loss g, z_stale g) := rfl
theorem vGa_levels (g : GS) (v : (Nat → Nat → Int32)) : vGa (sz_levels g v) = vGa g := rfl
theorem vSp_levels (g : GS) (v : (Nat → Nat → Int32)) : vSp (sz_levels g v) = vSp g := rfl
theorem vTr_levels (g : GS) (v : (Nat → Nat → Int32)) : vTr (sz_levels g v) = vTr g := rfl
theorem zz_finding_heads (g : GS) (v : (Nat → Nat → Int32)) : z_finding (sz_heads g v) = z_finding g := rfl
theorem zz_items_heads (g : GS) (v : (Nat → Nat → Int32)) : z_items (sz_heads g v) = z_items g := rfl
theorem zz_lanes_heads (g : GS) (v : (Nat → Nat → Int32)) : z_lanes (sz_heads g v) = z_lanes g := rfl
theorem zz_sizes_heads (g : GS) (v : (Nat → Nat → Int32)) : z_sizes (sz_heads g v) = z_sizes g := rfl
theorem zz_weights_heads (g : GS) (v : (Nat → Nat → Int32)) : z_weights (sz_heads g v) = z_weights g := rfl
theorem zz_levels_heads (g : GS) (v : (Nat → Nat → Int32)) : z_levels (sz_heads g v) = z_levels g := rfl
theorem zz_heads_heads (g : GS) (v : (Nat → Nat → Int32)) : z_heads (sz_heads g v) = v := rfl
theorem zz_ssize_heads (g : GS) (v : (Nat → Nat → Int32)) : z_ssize (sz_heads g v) = z_ssize g := rfl
theorem zz_rules_heads (g : GS) (v : (Nat → Nat → Int32)) : z_rules (sz_heads g v) = z_rules g := rfl
theorem zz_rivers_heads (g : GS) (v : (Nat → Nat → Int32)) : z_rivers (sz_heads g v) = z_rivers g := rfl
theorem zz_orders_heads (g : GS) (v : (Nat → Nat → Int32)) : z_orders (sz_heads g v) = z_orders g := rfl
theorem zz_now_heads (g : GS) (v : (Nat → Nat → Int32)) : z_now (sz_heads g v) = z_now g := rfl
theorem zz_then_heads (g : GS) (v : (Nat → Nat → Int32)) : z_then (sz_heads g v) = z_then g := rfl
theorem zz_loss_heads (g : GS) (v : (Nat → Nat → Int32)) : z_loss (sz_heads g v) = z_loss g := rfl
theorem zz_stale_heads (g : GS) (v : (Nat → Nat → Int32)) : z_stale (sz_heads g v) = z_stale g := rfl
theorem zz_ga_heads (g : GS) (v : (Nat → Nat → Int32)) : z_ga (sz_heads g v) = z_ga g := rfl
theorem zz_free_heads (g : GS) (v : (Nat → Nat → Int32)) : z_free (sz_heads g v) = z_free g := rfl
theorem zz_rsize_heads (g : GS) (v : (Nat → Nat → Int32)) : z_rsize (sz_heads g v) = z_rsize g := rfl
theorem zz_fmin_heads (g : GS) (v : (Nat → Nat → Int32)) : z_fmin (sz_heads g v) = z_fmin g := rfl
theorem zz_fpass_heads (g : GS) (v : (Nat → Nat → Int32)) : z_fpass (sz_heads g v) = z_fpass g := rfl
theorem zz_inTurn_heads (g : GS) (v : (Nat → Nat → Int32)) : z_inTurn (sz_heads g v) = z_inTurn g := rfl
theorem zz_fsize_heads (g : GS) (v : (Nat → Nat → Int32)) : z_fsize (sz_heads g v) = z_fsize g := rfl
theorem zz_numbers_heads (g : GS) (v : (Nat → Nat → Int32)) : z_numbers (sz_heads g v) = z_numbers g := rfl
theorem zz_tlen_heads (g : GS) (v : (Nat → Nat → Int32)) : z_tlen (sz_heads g v) = z_tlen g := rfl
theorem zz_gk_heads (g : GS) (v : (Nat → Nat → Int32)) : z_gk (sz_heads g v) = z_gk g := rfl
theorem zz_gm_heads (g : GS) (v : (Nat → Nat → Int32)) : z_gm (sz_heads g v) = z_gm g := rfl
theorem zz_gh_heads (g : GS) (v : (Nat → Nat → Int32)) : z_gh (sz_heads g v) = z_gh g := rfl
theorem zz_gf_heads (g : GS) (v : (Nat → Nat → Int32)) : z_gf (sz_heads g v) = z_gf g := rfl
theorem zz_gn_heads (g : GS) (v : (Nat → Nat → Int32)) : z_gn (sz_heads g v) = z_gn g := rfl
theorem vSh_heads (g : GS) (v : (Nat → Nat → Int32)) : vSh (sz_heads g v) = vSh g := rfl
theorem vSea_heads (g : GS) (v : (Nat → Nat → Int32)) : vSea (sz_heads g v) = (z_weights g, z_levels g, v, z_ssize g, z_rules g, z_rivers g, z_orders g, z_loss g, z_stale g) := rfl
theorem vGa_heads (g : GS) (v : (Nat → Nat → Int32)) : vGa (sz_heads g v) = vGa g := rfl
theorem vSp_heads (g : GS) (v : (Nat → Nat → Int32)) : vSp (sz_heads g v) = vSp g := rfl
theorem vTr_heads (g : GS) (v : (Nat → Nat → Int32)) : vTr (sz_heads g v) = vTr g := rfl
theorem zz_finding_ssize (g : GS) (v : Int32) : z_finding (sz_ssize g v) = z_finding g := rfl
theorem zz_items_ssize (g : GS) (v : Int32) : z_items (sz_ssize g v) = z_items g := rfl
theorem zz_lanes_ssize (g : GS) (v : Int32) : z_lanes (sz_ssize g v) = z_lanes g := rfl
theorem zz_sizes_ssize (g : GS) (v : Int32) : z_sizes (sz_ssize g v) = z_sizes g := rfl
theorem zz_weights_ssize (g : GS) (v : Int32) : z_weights (sz_ssize g v) = z_weights g := rfl
theorem zz_levels_ssize (g : GS) (v : Int32) : z_levels (sz_ssize g v) = z_levels g := rfl
theorem zz_heads_ssize (g : GS) (v : Int32) : z_heads (sz_ssize g v) = z_heads g := rfl
theorem zz_ssize_ssize (g : GS) (v : Int32) : z_ssize (sz_ssize g v) = v := rfl
theorem zz_rules_ssize (g : GS) (v : Int32) : z_rules (sz_ssize g v) = z_rules g := rfl
theorem zz_rivers_ssize (g : GS) (v : Int32) : z_rivers (sz_ssize g v) = z_rivers g := rfl
theorem zz_orders_ssize (g : GS) (v : Int32) : z_orders (sz_ssize g v) = z_orders g := rfl
theorem zz_now_ssize (g : GS) (v : Int32) : z_now (sz_ssize g v) = z_now g := rfl
theorem zz_then_ssize (g : GS) (v : Int32) : z_then (sz_ssize g v) = z_then g := rfl
theorem zz_loss_ssize (g : GS) (v : Int32) : z_loss (sz_ssize g v) = z_loss g := rfl
theorem zz_stale_ssize (g : GS) (v : Int32) : z_stale (sz_ssize g v) = z_stale g := rfl
theorem zz_ga_ssize (g : GS) (v : Int32) : z_ga (sz_ssize g v) = z_ga g := rfl
theorem zz_free_ssize (g : GS) (v : Int32) : z_free (sz_ssize g v) = z_free g := rfl
theorem zz_rsize_ssize (g : GS) (v : Int32) : z_rsize (sz_ssize g v) = z_rsize g := rfl
theorem zz_fmin_ssize (g : GS) (v : Int32) : z_fmin (sz_ssize g v) = z_fmin g := rfl
theorem zz_fpass_ssize (g : GS) (v : Int32) : z_fpass (sz_ssize g v) = z_fpass g := rfl
theorem zz_inTurn_ssize (g : GS) (v : Int32) : z_inTurn (sz_ssize g v) = z_inTurn g := rfl
theorem zz_fsize_ssize (g : GS) (v : Int32) : z_fsize (sz_ssize g v) = z_fsize g := rfl
theorem zz_numbers_ssize (g : GS) (v : Int32) : z_numbers (sz_ssize g v) = z_numbers g := rfl
theorem zz_tlen_ssize (g : GS) (v : Int32) : z_tlen (sz_ssize g v) = z_tlen g := rfl
theorem zz_gk_ssize (g : GS) (v : Int32) : z_gk (sz_ssize g v) = z_gk g := rfl
theorem zz_gm_ssize (g : GS) (v : Int32) : z_gm (sz_ssize g v) = z_gm g := rfl
theorem zz_gh_ssize (g : GS) (v : Int32) : z_gh (sz_ssize g v) = z_gh g := rfl
theorem zz_gf_ssize (g : GS) (v : Int32) : z_gf (sz_ssize g v) = z_gf g := rfl
theorem zz_gn_ssize (g : GS) (v : Int32) : z_gn (sz_ssize g v) = z_gn g := rfl
theorem vSh_ssize (g : GS) (v : Int32) : vSh (sz_ssize g v) = vSh g := rfl
theorem vSea_ssize (g : GS) (v : Int32) : vSea (sz_ssize g v) = (z_weights g, z_levels g, z_heads g, v, z_rules g, z_rivers g, z_orders g, z_loss g, z_stale g) := rfl
theorem vGa_ssize (g : GS) (v : Int32) : vGa (sz_ssize g v) = vGa g := rfl
theorem vSp_ssize (g : GS) (v : Int32) : vSp (sz_ssize g v) = vSp g := rfl
theorem vTr_ssize (g : GS) (v : Int32) : vTr (sz_ssize g v) = vTr g := rfl
theorem zz_finding_rules (g : GS) (v : (Nat → Int32)) : z_finding (sz_rules g v) = z_finding g := rfl
theorem zz_items_rules (g : GS) (v : (Nat → Int32)) : z_items (sz_rules g v) = z_items g := rfl
theorem zz_lanes_rules (g : GS) (v : (Nat → Int32)) : z_lanes (sz_rules g v) = z_lanes g := rfl
theorem zz_sizes_rules (g : GS) (v : (Nat → Int32)) : z_sizes (sz_rules g v) = z_sizes g := rfl
theorem zz_weights_rules (g : GS) (v : (Nat → Int32)) : z_weights (sz_rules g v) = z_weights g := rfl
theorem zz_levels_rules (g : GS) (v : (Nat → Int32)) : z_levels (sz_rules g v) = z_levels g := rfl
theorem zz_heads_rules (g : GS) (v : (Nat → Int32)) : z_heads (sz_rules g v) = z_heads g := rfl
theorem zz_ssize_rules (g : GS) (v : (Nat → Int32)) : z_ssize (sz_rules g v) = z_ssize g := rfl
theorem zz_rules_rules (g : GS) (v : (Nat → Int32)) : z_rules (sz_rules g v) = v := rfl
theorem zz_rivers_rules (g : GS) (v : (Nat → Int32)) : z_rivers (sz_rules g v) = z_rivers g := rfl
theorem zz_orders_rules (g : GS) (v : (Nat → Int32)) : z_orders (sz_rules g v) = z_orders g := rfl
theorem zz_now_rules (g : GS) (v : (Nat → Int32)) : z_now (sz_rules g v) = z_now g := rfl
theorem zz_then_rules (g : GS) (v : (Nat → Int32)) : z_then (sz_rules g v) = z_then g := rfl
theorem zz_loss_rules (g : GS) (v : (Nat → Int32)) : z_loss (sz_rules g v) = z_loss g := rfl
theorem zz_stale_rules (g : GS) (v : (Nat → Int32)) : z_stale (sz_rules g v) = z_stale g := rfl
theorem zz_ga_rules (g : GS) (v : (Nat → Int32)) : z_ga (sz_rules g v) = z_ga g := rfl
theorem zz_free_rules (g : GS) (v : (Nat → Int32)) : z_free (sz_rules g v) = z_free g := rfl
theorem zz_rsize_rules (g : GS) (v : (Nat → Int32)) : z_rsize (sz_rules g v) = z_rsize g := rfl
theorem zz_fmin_rules (g : GS) (v : (Nat → Int32)) : z_fmin (sz_rules g v) = z_fmin g := rfl
theorem zz_fpass_rules (g : GS) (v : (Nat → Int32)) : z_fpass (sz_rules g v) = z_fpass g := rfl
theorem zz_inTurn_rules (g : GS) (v : (Nat → Int32)) : z_inTurn (sz_rules g v) = z_inTurn g := rfl
theorem zz_fsize_rules (g : GS) (v : (Nat → Int32)) : z_fsize (sz_rules g v) = z_fsize g := rfl
theorem zz_numbers_rules (g : GS) (v : (Nat → Int32)) : z_numbers (sz_rules g v) = z_numbers g := rfl
theorem zz_tlen_rules (g : GS) (v : (Nat → Int32)) : z_tlen (sz_rules g v) = z_tlen g := rfl
theorem zz_gk_rules (g : GS) (v : (Nat → Int32)) : z_gk (sz_rules g v) = z_gk g := rfl
theorem zz_gm_rules (g : GS) (v : (Nat → Int32)) : z_gm (sz_rules g v) = z_gm g := rfl
theorem zz_gh_rules (g : GS) (v : (Nat → Int32)) : z_gh (sz_rules g v) = z_gh g := rfl
theorem zz_gf_rules (g : GS) (v : (Nat → Int32)) : z_gf (sz_rules g v) = z_gf g := rfl
theorem zz_gn_rules (g : GS) (v : (Nat → Int32)) : z_gn (sz_rules g v) = z_gn g := rfl
theorem vSh_rules (g : GS) (v : (Nat → Int32)) : vSh (sz_rules g v) = vSh g := rfl
theorem vSea_rules (g : GS) (v : (Nat → Int32)) : vSea (sz_rules g v) = (z_weights g, z_levels g, z_heads g, z_ssize g, v, z_rivers g, z_orders g, z_loss g, z_stale g) := rfl
theorem vGa_rules (g : GS) (v : (Nat → Int32)) : vGa (sz_rules g v) = vGa g := rfl
theorem vSp_rules (g : GS) (v : (Nat → Int32)) : vSp (sz_rules g v) = vSp g := rfl
theorem vTr_rules (g : GS) (v : (Nat → Int32)) : vTr (sz_rules g v) = vTr g := rfl
theorem zz_finding_rivers (g : GS) (v : (Nat → Int32)) : z_finding (sz_rivers g v) = z_finding g := rfl
theorem zz_items_rivers (g : GS) (v : (Nat → Int32)) : z_items (sz_rivers g v) = z_items g := rfl
theorem zz_lanes_rivers (g : GS) (v : (Nat → Int32)) : z_lanes (sz_rivers g v) = z_lanes g := rfl
theorem zz_sizes_rivers (g : GS) (v : (Nat → Int32)) : z_sizes (sz_rivers g v) = z_sizes g := rfl
theorem zz_weights_rivers (g : GS) (v : (Nat → Int32)) : z_weights (sz_rivers g v) = z_weights g := rfl
theorem zz_levels_rivers (g : GS) (v : (Nat → Int32)) : z_levels (sz_rivers g v) = z_levels g := rfl
theorem zz_heads_rivers (g : GS) (v : (Nat → Int32)) : z_heads (sz_rivers g v) = z_heads g := rfl
theorem zz_ssize_rivers (g : GS) (v : (Nat → Int32)) : z_ssize (sz_rivers g v) = z_ssize g := rfl
theorem zz_rules_rivers (g : GS) (v : (Nat → Int32)) : z_rules (sz_rivers g v) = z_rules g := rfl
theorem zz_rivers_rivers (g : GS) (v : (Nat → Int32)) : z_rivers (sz_rivers g v) = v := rfl
theorem zz_orders_rivers (g : GS) (v : (Nat → Int32)) : z_orders (sz_rivers g v) = z_orders g := rfl
theorem zz_now_rivers (g : GS) (v : (Nat → Int32)) : z_now (sz_rivers g v) = z_now g := rfl
theorem zz_then_rivers (g : GS) (v : (Nat → Int32)) : z_then (sz_rivers g v) = z_then g := rfl
theorem zz_loss_rivers (g : GS) (v : (Nat → Int32)) : z_loss (sz_rivers g v) = z_loss g := rfl
theorem zz_stale_rivers (g : GS) (v : (Nat → Int32)) : z_stale (sz_rivers g v) = z_stale g := rfl
theorem zz_ga_rivers (g : GS) (v : (Nat → Int32)) : z_ga (sz_rivers g v) = z_ga g := rfl
theorem zz_free_rivers (g : GS) (v : (Nat → Int32)) : z_free (sz_rivers g v) = z_free g := rfl
theorem zz_rsize_rivers (g : GS) (v : (Nat → Int32)) : z_rsize (sz_rivers g v) = z_rsize g := rfl
theorem zz_fmin_rivers (g : GS) (v : (Nat → Int32)) : z_fmin (sz_rivers g v) = z_fmin g := rfl
theorem zz_fpass_rivers (g : GS) (v : (Nat → Int32)) : z_fpass (sz_rivers g v) = z_fpass g := rfl
theorem zz_inTurn_rivers (g : GS) (v : (Nat → Int32)) : z_inTurn (sz_rivers g v) = z_inTurn g := rfl
theorem zz_fsize_rivers (g : GS) (v : (Nat → Int32)) : z_fsize (sz_rivers g v) = z_fsize g := rfl
theorem zz_numbers_rivers (g : GS) (v : (Nat → Int32)) : z_numbers (sz_rivers g v) = z_numbers g := rfl
theorem zz_tlen_rivers (g : GS) (v : (Nat → Int32)) : z_tlen (sz_rivers g v) = z_tlen g := rfl
theorem zz_gk_rivers (g : GS) (v : (Nat → Int32)) : z_gk (sz_rivers g v) = z_gk g := rfl
theorem zz_gm_rivers (g : GS) (v : (Nat → Int32)) : z_gm (sz_rivers g v) = z_gm g := rfl
theorem zz_gh_rivers (g : GS) (v : (Nat → Int32)) : z_gh (sz_rivers g v) = z_gh g := rfl
theorem zz_gf_rivers (g : GS) (v : (Nat → Int32)) : z_gf (sz_rivers g v) = z_gf g := rfl
theorem zz_gn_rivers (g : GS) (v : (Nat → Int32)) : z_gn (sz_rivers g v) = z_gn g := rfl
theorem vSh_rivers (g : GS) (v : (Nat → Int32)) : vSh (sz_rivers g v) = vSh g := rfl
theorem vSea_rivers (g : GS) (v : (Nat → Int32)) : vSea (sz_rivers g v) = (z_weights g, z_levels g, z_heads g, z_ssize g, z_rules g, v, z_orders g, z_loss g, z_stale g) := rfl
theorem vGa_rivers (g : GS) (v : (Nat → Int32)) : vGa (sz_rivers g v) = vGa g := rfl
theorem vSp_rivers (g : GS) (v : (Nat → Int32)) : vSp (sz_rivers g v) = vSp g := rfl
theorem vTr_rivers (g : GS) (v : (Nat → Int32)) : vTr (sz_rivers g v) = vTr g := rfl
theorem zz_finding_orders (g : GS) (v : (Nat → Nat → Int32)) : z_finding (sz_orders g v) = z_finding g := rfl
theorem zz_items_orders (g : GS) (v : (Nat → Nat → Int32)) : z_items (sz_orders g v) = z_items g := rfl
theorem zz_lanes_orders (g : GS) (v : (Nat → Nat → Int32)) : z_lanes (sz_orders g v) = z_lanes g := rfl
theorem zz_sizes_orders (g : GS) (v : (Nat → Nat → Int32)) : z_sizes (sz_orders g v) = z_sizes g := rfl
theorem zz_weights_orders (g : GS) (v : (Nat → Nat → Int32)) : z_weights (sz_orders g v) = z_weights g := rfl
theorem zz_levels_orders (g : GS) (v : (Nat → Nat → Int32)) : z_levels (sz_orders g v) = z_levels g := rfl
theorem zz_heads_orders (g : GS) (v : (Nat → Nat → Int32)) : z_heads (sz_orders g v) = z_heads g := rfl
theorem zz_ssize_orders (g : GS) (v : (Nat → Nat → Int32)) : z_ssize (sz_orders g v) = z_ssize g := rfl
theorem zz_rules_orders (g : GS) (v : (Nat → Nat → Int32)) : z_rules (sz_orders g v) = z_rules g := rfl
theorem zz_rivers_orders (g : GS) (v : (Nat → Nat → Int32)) : z_rivers (sz_orders g v) = z_rivers g := rfl
theorem zz_orders_orders (g : GS) (v : (Nat → Nat → Int32)) : z_orders (sz_orders g v) = v := rfl
theorem zz_now_orders (g : GS) (v : (Nat → Nat → Int32)) : z_now (sz_orders g v) = z_now g := rfl
theorem zz_then_orders (g : GS) (v : (Nat → Nat → Int32)) : z_then (sz_orders g v) = z_then g := rfl
theorem zz_loss_orders (g : GS) (v : (Nat → Nat → Int32)) : z_loss (sz_orders g v) = z_loss g := rfl
theorem zz_stale_orders (g : GS) (v : (Nat → Nat → Int32)) : z_stale (sz_orders g v) = z_stale g := rfl
theorem zz_ga_orders (g : GS) (v : (Nat → Nat → Int32)) : z_ga (sz_orders g v) = z_ga g := rfl
theorem zz_free_orders (g : GS) (v : (Nat → Nat → Int32)) : z_free (sz_orders g v) = z_free g := rfl
theorem zz_rsize_orders (g : GS) (v : (Nat → Nat → Int32)) : z_rsize (sz_orders g v) = z_rsize g := rfl
theorem zz_fmin_orders (g : GS) (v : (Nat → Nat → Int32)) : z_fmin (sz_orders g v) = z_fmin g := rfl
theorem zz_fpass_orders (g : GS) (v : (Nat → Nat → Int32)) : z_fpass (sz_orders g v) = z_fpass g := rfl
theorem zz_inTurn_orders (g : GS) (v : (Nat → Nat → Int32)) : z_inTurn (sz_orders g v) = z_inTurn g := rfl
theorem zz_fsize_orders (g : GS) (v : (Nat → Nat → Int32)) : z_fsize (sz_orders g v) = z_fsize g := rfl
theorem zz_numbers_orders (g : GS) (v : (Nat → Nat → Int32)) : z_numbers (sz_orders g v) = z_numbers g := rfl
theorem zz_tlen_orders (g : GS) (v : (Nat → Nat → Int32)) : z_tlen (sz_orders g v) = z_tlen g := rfl
theorem zz_gk_orders (g : GS) (v : (Nat → Nat → Int32)) : z_gk (sz_orders g v) = z_gk g := rfl
theorem zz_gm_orders (g : GS) (v : (Nat → Nat → Int32)) : z_gm (sz_orders g v) = z_gm g := rfl
theorem zz_gh_orders (g : GS) (v : (Nat → Nat → Int32)) : z_gh (sz_orders g v) = z_gh g := rfl
theorem zz_gf_orders (g : GS) (v : (Nat → Nat → Int32)) : z_gf (sz_orders g v) = z_gf g := rfl
theorem zz_gn_orders (g : GS) (v : (Nat → Nat → Int32)) : z_gn (sz_orders g v) = z_gn g := rfl
theorem vSh_orders (g : GS) (v : (Nat → Nat → Int32)) : vSh (sz_orders g v) = vSh g := rfl
theorem vSea_orders (g : GS) (v : (Nat → Nat → Int32)) : vSea (sz_orders g v) = (z_weights g, z_levels g, z_heads g, z_ssize g, z_rules g, z_rivers g, v, z_loss g, z_stale g) := rfl
theorem vGa_orders (g : GS) (v : (Nat → Nat → Int32)) : vGa (sz_orders g v) = vGa g := rfl
theorem vSp_orders (g : GS) (v : (Nat → Nat → Int32)) : vSp (sz_orders g v) = vSp g := rfl
theorem vTr_orders (g : GS) (v : (Nat → Nat → Int32)) : vTr (sz_orders g v) = vTr g := rfl
theorem zz_finding_now (g : GS) (v : (Nat → Nat → Int64)) : z_finding (sz_now g v) = z_finding g := rfl
theorem zz_items_now (g : GS) (v : (Nat → Nat → Int64)) : z_items (sz_now g v) = z_items g := rfl
theorem zz_lanes_now (g : GS) (v : (Nat → Nat → Int64)) : z_lanes (sz_now g v) = z_lanes g := rfl
theorem zz_sizes_now (g : GS) (v : (Nat → Nat → Int64)) : z_sizes (sz_now g v) = z_sizes g := rfl
theorem zz_weights_now (g : GS) (v : (Nat → Nat → Int64)) : z_weights (sz_now g v) = z_weights g := rfl
theorem zz_levels_now (g : GS) (v : (Nat → Nat → Int64)) : z_levels (sz_now g v) = z_levels g := rfl
theorem zz_heads_now (g : GS) (v : (Nat → Nat → Int64)) : z_heads (sz_now g v) = z_heads g := rfl
theorem zz_ssize_now (g : GS) (v : (Nat → Nat → Int64)) : z_ssize (sz_now g v) = z_ssize g := rfl
theorem zz_rules_now (g : GS) (v : (Nat → Nat → Int64)) : z_rules (sz_now g v) = z_rules g := rfl
theorem zz_rivers_now (g : GS) (v : (Nat → Nat → Int64)) : z_rivers (sz_now g v) = z_rivers g := rfl
theorem zz_orders_now (g : GS) (v : (Nat → Nat → Int64)) : z_orders (sz_now g v) = z_orders g := rfl
theorem zz_now_now (g : GS) (v : (Nat → Nat → Int64)) : z_now (sz_now g v) = v := rfl
theorem zz_then_now (g : GS) (v : (Nat → Nat → Int64)) : z_then (sz_now g v) = z_then g := rfl
theorem zz_loss_now (g : GS) (v : (Nat → Nat → Int64)) : z_loss (sz_now g v) = z_loss g := rfl
theorem zz_stale_now (g : GS) (v : (Nat → Nat → Int64)) : z_stale (sz_now g v) = z_stale g := rfl
theorem zz_ga_now (g : GS) (v : (Nat → Nat → Int64)) : z_ga (sz_now g v) = z_ga g := rfl
theorem zz_free_now (g : GS) (v : (Nat → Nat → Int64)) : z_free (sz_now g v) = z_free g := rfl
theorem zz_rsize_now (g : GS) (v : (Nat → Nat → Int64)) : z_rsize (sz_now g v) = z_rsize g := rfl
theorem zz_fmin_now (g : GS) (v : (Nat → Nat → Int64)) : z_fmin (sz_now g v) = z_fmin g := rfl
theorem zz_fpass_now (g : GS) (v : (Nat → Nat → Int64)) : z_fpass (sz_now g v) = z_fpass g := rfl
theorem zz_inTurn_now (g : GS) (v : (Nat → Nat → Int64)) : z_inTurn (sz_now g v) = z_inTurn g := rfl
theorem zz_fsize_now (g : GS) (v : (Nat → Nat → Int64)) : z_fsize (sz_now g v) = z_fsize g := rfl
theorem zz_numbers_now (g : GS) (v : (Nat → Nat → Int64)) : z_numbers (sz_now g v) = z_numbers g := rfl
theorem zz_tlen_now (g : GS) (v : (Nat → Nat → Int64)) : z_tlen (sz_now g v) = z_tlen g := rfl
theorem zz_gk_now (g : GS) (v : (Nat → Nat → Int64)) : z_gk (sz_now g v) = z_gk g := rfl
theorem zz_gm_now (g : GS) (v : (Nat → Nat → Int64)) : z_gm (sz_now g v) = z_gm g := rfl
theorem zz_gh_now (g : GS) (v : (Nat → Nat → Int64)) : z_gh (sz_now g v) = z_gh g := rfl
theorem zz_gf_now (g : GS) (v : (Nat → Nat → Int64)) : z_gf (sz_now g v) = z_gf g := rfl
theorem zz_gn_now (g : GS) (v : (Nat → Nat → Int64)) : z_gn (sz_now g v) = z_gn g := rfl
theorem vSh_now (g : GS) (v : (Nat → Nat → Int64)) : vSh (sz_now g v) = vSh g := rfl
theorem vSea_now (g : GS) (v : (Nat → Nat → Int64)) : vSea (sz_now g v) = vSea g := rfl
theorem vGa_now (g : GS) (v : (Nat → Nat → Int64)) : vGa (sz_now g v) = vGa g := rfl
theorem vSp_now (g : GS) (v : (Nat → Nat → Int64)) : vSp (sz_now g v) = vSp g := rfl
theorem vTr_now (g : GS) (v : (Nat → Nat → Int64)) : vTr (sz_now g v) = vTr g := rfl
theorem zz_finding_then (g : GS) (v : (Nat → Nat → Int64)) : z_finding (sz_then g v) = z_finding g := rfl
theorem zz_items_then (g : GS) (v : (Nat → Nat → Int64)) : z_items (sz_then g v) = z_items g := rfl
theorem zz_lanes_then (g : GS) (v : (Nat → Nat → Int64)) : z_lanes (sz_then g v) = z_lanes g := rfl
theorem zz_sizes_then (g : GS) (v : (Nat → Nat → Int64)) : z_sizes (sz_then g v) = z_sizes g := rfl
theorem zz_weights_then (g : GS) (v : (Nat → Nat → Int64)) : z_weights (sz_then g v) = z_weights g := rfl
theorem zz_levels_then (g : GS) (v : (Nat → Nat → Int64)) : z_levels (sz_then g v) = z_levels g := rfl
theorem zz_heads_then (g : GS) (v : (Nat → Nat → Int64)) : z_heads (sz_then g v) = z_heads g := rfl
theorem zz_ssize_then (g : GS) (v : (Nat → Nat → Int64)) : z_ssize (sz_then g v) = z_ssize g := rfl
theorem zz_rules_then (g : GS) (v : (Nat → Nat → Int64)) : z_rules (sz_then g v) = z_rules g := rfl
theorem zz_rivers_then (g : GS) (v : (Nat → Nat → Int64)) : z_rivers (sz_then g v) = z_rivers g := rfl
theorem zz_orders_then (g : GS) (v : (Nat → Nat → Int64)) : z_orders (sz_then g v) = z_orders g := rfl
theorem zz_now_then (g : GS) (v : (Nat → Nat → Int64)) : z_now (sz_then g v) = z_now g := rfl
theorem zz_then_then (g : GS) (v : (Nat → Nat → Int64)) : z_then (sz_then g v) = v := rfl
theorem zz_loss_then (g : GS) (v : (Nat → Nat → Int64)) : z_loss (sz_then g v) = z_loss g := rfl
theorem zz_stale_then (g : GS) (v : (Nat → Nat → Int64)) : z_stale (sz_then g v) = z_stale g := rfl
theorem zz_ga_then (g : GS) (v : (Nat → Nat → Int64)) : z_ga (sz_then g v) = z_ga g := rfl
theorem zz_free_then (g : GS) (v : (Nat → Nat → Int64)) : z_free (sz_then g v) = z_free g := rfl
theorem zz_rsize_then (g : GS) (v : (Nat → Nat → Int64)) : z_rsize (sz_then g v) = z_rsize g := rfl
theorem zz_fmin_then (g : GS) (v : (Nat → Nat → Int64)) : z_fmin (sz_then g v) = z_fmin g := rfl
theorem zz_fpass_then (g : GS) (v : (Nat → Nat → Int64)) : z_fpass (sz_then g v) = z_fpass g := rfl
theorem zz_inTurn_then (g : GS) (v : (Nat → Nat → Int64)) : z_inTurn (sz_then g v) = z_inTurn g := rfl
theorem zz_fsize_then (g : GS) (v : (Nat → Nat → Int64)) : z_fsize (sz_then g v) = z_fsize g := rfl
theorem zz_numbers_then (g : GS) (v : (Nat → Nat → Int64)) : z_numbers (sz_then g v) = z_numbers g := rfl
theorem zz_tlen_then (g : GS) (v : (Nat → Nat → Int64)) : z_tlen (sz_then g v) = z_tlen g := rfl
theorem zz_gk_then (g : GS) (v : (Nat → Nat → Int64)) : z_gk (sz_then g v) = z_gk g := rfl
theorem zz_gm_then (g : GS) (v : (Nat → Nat → Int64)) : z_gm (sz_then g v) = z_gm g := rfl
theorem zz_gh_then (g : GS) (v : (Nat → Nat → Int64)) : z_gh (sz_then g v) = z_gh g := rfl
theorem zz_gf_then (g : GS) (v : (Nat → Nat → Int64)) : z_gf (sz_then g v) = z_gf g := rfl
theorem zz_gn_then (g : GS) (v : (Nat → Nat → Int64)) : z_gn (sz_then g v) = z_gn g := rfl
theorem vSh_then (g : GS) (v : (Nat → Nat → Int64)) : vSh (sz_then g v) = vSh g := rfl
theorem vSea_then (g : GS) (v : (Nat → Nat → Int64)) : vSea (sz_then g v) = vSea g := rfl
theorem vGa_then (g : GS) (v : (Nat → Nat → Int64)) : vGa (sz_then g v) = vGa g := rfl
theorem vSp_then (g : GS) (v : (Nat → Nat → Int64)) : vSp (sz_then g v) = vSp g := rfl
theorem vTr_then (g : GS) (v : (Nat → Nat → Int64)) : vTr (sz_then g v) = vTr g := rfl
theorem zz_finding_loss (g : GS) (v : Int64) : z_finding (sz_loss g v) = z_finding g := rfl
theorem zz_items_loss (g : GS) (v : Int64) : z_items (sz_loss g v) = z_items g := rfl
theorem zz_lanes_loss (g : GS) (v : Int64) : z_lanes (sz_loss g v) = z_lanes g := rfl
theorem zz_sizes_loss (g : GS) (v : Int64) : z_sizes (sz_loss g v) = z_sizes g := rfl
theorem zz_weights_loss (g : GS) (v : Int64) : z_weights (sz_loss g v) = z_weights g := rfl
theorem zz_levels_loss (g : GS) (v : Int64) : z_levels (sz_loss g v) = z_levels g := rfl
theorem zz_heads_loss (g : GS) (v : Int64) : z_heads (sz_loss g v) = z_heads g := rfl
theorem zz_ssize_loss (g : GS) (v : Int64) : z_ssize (sz_loss g v) = z_ssize g := rfl
theorem zz_rules_loss (g : GS) (v : Int64) : z_rules (sz_loss g v) = z_rules g := rfl
theorem zz_rivers_loss (g : GS) (v : Int64) : z_rivers (sz_loss g v) = z_rivers g := rfl
theorem zz_orders_loss (g : GS) (v : Int64) : z_orders (sz_loss g v) = z_orders g := rfl
theorem zz_now_loss (g : GS) (v : Int64) : z_now (sz_loss g v) = z_now g := rfl
theorem zz_then_loss (g : GS) (v : Int64) : z_then (sz_loss g v) = z_then g := rfl
theorem zz_loss_loss (g : GS) (v : Int64) : z_loss (sz_loss g v) = v := rfl
theorem zz_stale_loss (g : GS) (v : Int64) : z_stale (sz_loss g v) = z_stale g := rfl
theorem zz_ga_loss (g : GS) (v : Int64) : z_ga (sz_loss g v) = z_ga g := rfl
theorem zz_free_loss (g : GS) (v : Int64) : z_free (sz_loss g v) = z_free g := rfl
theorem zz_rsize_loss (g : GS) (v : Int64) : z_rsize (sz_loss g v) = z_rsize g := rfl
theorem zz_fmin_loss (g : GS) (v : Int64) : z_fmin (sz_loss g v) = z_fmin g := rfl
theorem zz_fpass_loss (g : GS) (v : Int64) : z_fpass (sz_loss g v) = z_fpass g := rfl
theorem zz_inTurn_loss (g : GS) (v : Int64) : z_inTurn (sz_loss g v) = z_inTurn g := rfl
theorem zz_fsize_loss (g : GS) (v : Int64) : z_fsize (sz_loss g v) = z_fsize g := rfl
theorem zz_numbers_loss (g : GS) (v : Int64) : z_numbers (sz_loss g v) = z_numbers g := rfl
theorem zz_tlen_loss (g : GS) (v : Int64) : z_tlen (sz_loss g v) = z_tlen g := rfl
theorem zz_gk_loss (g : GS) (v : Int64) : z_gk (sz_loss g v) = z_gk g := rfl
theorem zz_gm_loss (g : GS) (v : Int64) : z_gm (sz_loss g v) = z_gm g := rfl
theorem zz_gh_loss (g : GS) (v : Int64) : z_gh (sz_loss g v) = z_gh g := rfl
theorem zz_gf_loss (g : GS) (v : Int64) : z_gf (sz_loss g v) = z_gf g := rfl
theorem zz_gn_loss (g : GS) (v : Int64) : z_gn (sz_loss g v) = z_gn g := rfl
theorem vSh_loss (g : GS) (v : Int64) : vSh (sz_loss g v) = vSh g := rfl
theorem vSea_loss (g : GS) (v : Int64) : vSea (sz_loss g v) = (z_weights g, z_levels g, z_heads g, z_ssize g, z_rules g, z_rivers g, z_orders g, v, z_stale g) := rfl
theorem vGa_loss (g : GS) (v : Int64) : vGa (sz_loss g v) = vGa g := rfl
theorem vSp_loss (g : GS) (v : Int64) : vSp (sz_loss g v) = vSp g := rfl
theorem vTr_loss (g : GS) (v : Int64) : vTr (sz_loss g v) = vTr g := rfl
theorem zz_finding_stale (g : GS) (v : Int32) : z_finding (sz_stale g v) = z_finding g := rfl
theorem zz_items_stale (g : GS) (v : Int32) : z_items (sz_stale g v) = z_items g := rfl
theorem zz_lanes_stale (g : GS) (v : Int32) : z_lanes (sz_stale g v) = z_lanes g := rfl
theorem zz_sizes_stale (g : GS) (v : Int32) : z_sizes (sz_stale g v) = z_sizes g := rfl
theorem zz_weights_stale (g : GS) (v : Int32) : z_weights (sz_stale g v) = z_weights g := rfl
theorem zz_levels_stale (g : GS) (v : Int32) : z_levels (sz_stale g v) = z_levels g := rfl
theorem zz_heads_stale (g : GS) (v : Int32) : z_heads (sz_stale g v) = z_heads g := rfl
theorem zz_ssize_stale (g : GS) (v : Int32) : z_ssize (sz_stale g v) = z_ssize g := rfl
theorem zz_rules_stale (g : GS) (v : Int32) : z_rules (sz_stale g v) = z_rules g := rfl
theorem zz_rivers_stale (g : GS) (v : Int32) : z_rivers (sz_stale g v) = z_rivers g := rfl
theorem zz_orders_stale (g : GS) (v : Int32) : z_orders (sz_stale g v) = z_orders g := rfl
theorem zz_now_stale (g : GS) (v : Int32) : z_now (sz_stale g v) = z_now g := rfl
theorem zz_then_stale (g : GS) (v : Int32) : z_then (sz_stale g v) = z_then g := rfl
theorem zz_loss_stale (g : GS) (v : Int32) : z_loss (sz_stale g v) = z_loss g := rfl
theorem zz_stale_stale (g : GS) (v : Int32) : z_stale (sz_stale g v) = v := rfl
theorem zz_ga_stale (g : GS) (v : Int32) : z_ga (sz_stale g v) = z_ga g := rfl
theorem zz_free_stale (g : GS) (v : Int32) : z_free (sz_stale g v) = z_free g := rfl
theorem zz_rsize_stale (g : GS) (v : Int32) : z_rsize (sz_stale g v) = z_rsize g := rfl
theorem zz_fmin_stale (g : GS) (v : Int32) : z_fmin (sz_stale g v) = z_fmin g := rfl
theorem zz_fpass_stale (g : GS) (v : Int32) : z_fpass (sz_stale g v) = z_fpass g := rfl
theorem zz_inTurn_stale (g : GS) (v : Int32) : z_inTurn (sz_stale g v) = z_inTurn g := rfl
theorem zz_fsize_stale (g : GS) (v : Int32) : z_fsize (sz_stale g v) = z_fsize g := rfl
theorem zz_numbers_stale (g : GS) (v : Int32) : z_numbers (sz_stale g v) = z_numbers g := rfl
theorem zz_tlen_stale (g : GS) (v : Int32) : z_tlen (sz_stale g v) = z_tlen g := rfl
theorem zz_gk_stale (g : GS) (v : Int32) : z_gk (sz_stale g v) = z_gk g := rfl
theorem zz_gm_stale (g : GS) (v : Int32) : z_gm (sz_stale g v) = z_gm g := rfl
theorem zz_gh_stale (g : GS) (v : Int32) : z_gh (sz_stale g v) = z_gh g := rfl
theorem zz_gf_stale (g : GS) (v : Int32) : z_gf (sz_stale g v) = z_gf g := rfl
theorem zz_gn_stale (g : GS) (v : Int32) : z_gn (sz_stale g v) = z_gn g := rfl
theorem vSh_stale (g : GS) (v : Int32) : vSh (sz_stale g v) = vSh g := rfl
theorem vSea_stale (g : GS) (v : Int32) : vSea (sz_stale g v) = (z_weights g, z_levels g, z_heads g, z_ssize g, z_rules g, z_rivers g, z_orders g, z_loss g, v) := rfl
theorem vGa_stale (g : GS) (v : Int32) : vGa (sz_stale g v) = vGa g := rfl
theorem vSp_stale (g : GS) (v : Int32) : vSp (sz_stale g v) = vSp g := rfl
theorem vTr_stale (g : GS) (v : Int32) : vTr (sz_stale g v) = vTr g := rfl
theorem zz_finding_ga (g : GS) (v : (Nat → Option Nat)) : z_finding (sz_ga g v) = z_finding g := rfl
theorem zz_items_ga (g : GS) (v : (Nat → Option Nat)) : z_items (sz_ga g v) = z_items g := rfl
theorem zz_lanes_ga (g : GS) (v : (Nat → Option Nat)) : z_lanes (sz_ga g v) = z_lanes g := rfl
theorem zz_sizes_ga (g : GS) (v : (Nat → Option Nat)) : z_sizes (sz_ga g v) = z_sizes g := rfl
theorem zz_weights_ga (g : GS) (v : (Nat → Option Nat)) : z_weights (sz_ga g v) = z_weights g := rfl
theorem zz_levels_ga (g : GS) (v : (Nat → Option Nat)) : z_levels (sz_ga g v) = z_levels g := rfl
theorem zz_heads_ga (g : GS) (v : (Nat → Option Nat)) : z_heads (sz_ga g v) = z_heads g := rfl
theorem zz_ssize_ga (g : GS) (v : (Nat → Option Nat)) : z_ssize (sz_ga g v) = z_ssize g := rfl
theorem zz_rules_ga (g : GS) (v : (Nat → Option Nat)) : z_rules (sz_ga g v) = z_rules g := rfl
theorem zz_rivers_ga (g : GS) (v : (Nat → Option Nat)) : z_rivers (sz_ga g v) = z_rivers g := rfl
theorem zz_orders_ga (g : GS) (v : (Nat → Option Nat)) : z_orders (sz_ga g v) = z_orders g := rfl
theorem zz_now_ga (g : GS) (v : (Nat → Option Nat)) : z_now (sz_ga g v) = z_now g := rfl
theorem zz_then_ga (g : GS) (v : (Nat → Option Nat)) : z_then (sz_ga g v) = z_then g := rfl
theorem zz_loss_ga (g : GS) (v : (Nat → Option Nat)) : z_loss (sz_ga g v) = z_loss g := rfl
theorem zz_stale_ga (g : GS) (v : (Nat → Option Nat)) : z_stale (sz_ga g v) = z_stale g := rfl
theorem zz_ga_ga (g : GS) (v : (Nat → Option Nat)) : z_ga (sz_ga g v) = v := rfl
theorem zz_free_ga (g : GS) (v : (Nat → Option Nat)) : z_free (sz_ga g v) = z_free g := rfl
theorem zz_rsize_ga (g : GS) (v : (Nat → Option Nat)) : z_rsize (sz_ga g v) = z_rsize g := rfl
theorem zz_fmin_ga (g : GS) (v : (Nat → Option Nat)) : z_fmin (sz_ga g v) = z_fmin g := rfl
theorem zz_fpass_ga (g : GS) (v : (Nat → Option Nat)) : z_fpass (sz_ga g v) = z_fpass g := rfl
theorem zz_inTurn_ga (g : GS) (v : (Nat → Option Nat)) : z_inTurn (sz_ga g v) = z_inTurn g := rfl
theorem zz_fsize_ga (g : GS) (v : (Nat → Option Nat)) : z_fsize (sz_ga g v) = z_fsize g := rfl
theorem zz_numbers_ga (g : GS) (v : (Nat → Option Nat)) : z_numbers (sz_ga g v) = z_numbers g := rfl
theorem zz_tlen_ga (g : GS) (v : (Nat → Option Nat)) : z_tlen (sz_ga g v) = z_tlen g := rfl
theorem zz_gk_ga (g : GS) (v : (Nat → Option Nat)) : z_gk (sz_ga g v) = z_gk g := rfl
theorem zz_gm_ga (g : GS) (v : (Nat → Option Nat)) : z_gm (sz_ga g v) = z_gm g := rfl
theorem zz_gh_ga (g : GS) (v : (Nat → Option Nat)) : z_gh (sz_ga g v) = z_gh g := rfl
theorem zz_gf_ga (g : GS) (v : (Nat → Option Nat)) : z_gf (sz_ga g v) = z_gf g := rfl
theorem zz_gn_ga (g : GS) (v : (Nat → Option Nat)) : z_gn (sz_ga g v) = z_gn g := rfl
theorem vSh_ga (g : GS) (v : (Nat → Option Nat)) : vSh (sz_ga g v) = vSh g := rfl
theorem vSea_ga (g : GS) (v : (Nat → Option Nat)) : vSea (sz_ga g v) = vSea g := rfl
theorem vGa_ga (g : GS) (v : (Nat → Option Nat)) : vGa (sz_ga g v) = (v, z_rsize g, z_gk g, z_gm g, z_gh g, z_gf g, z_gn g) := rfl
theorem vSp_ga (g : GS) (v : (Nat → Option Nat)) : vSp (sz_ga g v) = vSp g := rfl
theorem vTr_ga (g : GS) (v : (Nat → Option Nat)) : vTr (sz_ga g v) = vTr g := rfl
theorem zz_finding_free (g : GS) (v : (Nat → Int32)) : z_finding (sz_free g v) = z_finding g := rfl
theorem zz_items_free (g : GS) (v : (Nat → Int32)) : z_items (sz_free g v) = z_items g := rfl
theorem zz_lanes_free (g : GS) (v : (Nat → Int32)) : z_lanes (sz_free g v) = z_lanes g := rfl
theorem zz_sizes_free (g : GS) (v : (Nat → Int32)) : z_sizes (sz_free g v) = z_sizes g := rfl
theorem zz_weights_free (g : GS) (v : (Nat → Int32)) : z_weights (sz_free g v) = z_weights g := rfl
theorem zz_levels_free (g : GS) (v : (Nat → Int32)) : z_levels (sz_free g v) = z_levels g := rfl
theorem zz_heads_free (g : GS) (v : (Nat → Int32)) : z_heads (sz_free g v) = z_heads g := rfl
theorem zz_ssize_free (g : GS) (v : (Nat → Int32)) : z_ssize (sz_free g v) = z_ssize g := rfl
theorem zz_rules_free (g : GS) (v : (Nat → Int32)) : z_rules (sz_free g v) = z_rules g := rfl
theorem zz_rivers_free (g : GS) (v : (Nat → Int32)) : z_rivers (sz_free g v) = z_rivers g := rfl
theorem zz_orders_free (g : GS) (v : (Nat → Int32)) : z_orders (sz_free g v) = z_orders g := rfl
theorem zz_now_free (g : GS) (v : (Nat → Int32)) : z_now (sz_free g v) = z_now g := rfl
theorem zz_then_free (g : GS) (v : (Nat → Int32)) : z_then (sz_free g v) = z_then g := rfl
theorem zz_loss_free (g : GS) (v : (Nat → Int32)) : z_loss (sz_free g v) = z_loss g := rfl
theorem zz_stale_free (g : GS) (v : (Nat → Int32)) : z_stale (sz_free g v) = z_stale g := rfl
theorem zz_ga_free (g : GS) (v : (Nat → Int32)) : z_ga (sz_free g v) = z_ga g := rfl
theorem zz_free_free (g : GS) (v : (Nat → Int32)) : z_free (sz_free g v) = v := rfl
theorem zz_rsize_free (g : GS) (v : (Nat → Int32)) : z_rsize (sz_free g v) = z_rsize g := rfl
theorem zz_fmin_free (g : GS) (v : (Nat → Int32)) : z_fmin (sz_free g v) = z_fmin g := rfl
theorem zz_fpass_free (g : GS) (v : (Nat → Int32)) : z_fpass (sz_free g v) = z_fpass g := rfl
theorem zz_inTurn_free (g : GS) (v : (Nat → Int32)) : z_inTurn (sz_free g v) = z_inTurn g := rfl
theorem zz_fsize_free (g : GS) (v : (Nat → Int32)) : z_fsize (sz_free g v) = z_fsize g := rfl
theorem zz_numbers_free (g : GS) (v : (Nat → Int32)) : z_numbers (sz_free g v) = z_numbers g := rfl
theorem zz_tlen_free (g : GS) (v : (Nat → Int32)) : z_tlen (sz_free g v) = z_tlen g := rfl
theorem zz_gk_free (g : GS) (v : (Nat → Int32)) : z_gk (sz_free g v) = z_gk g := rfl
theorem zz_gm_free (g : GS) (v : (Nat → Int32)) : z_gm (sz_free g v) = z_gm g := rfl
theorem zz_gh_free (g : GS) (v : (Nat → Int32)) : z_gh (sz_free g v) = z_gh g := rfl
theorem zz_gf_free (g : GS) (v : (Nat → Int32)) : z_gf (sz_free g v) = z_gf g := rfl
theorem zz_gn_free (g : GS) (v : (Nat → Int32)) : z_gn (sz_free g v) = z_gn g := rfl
theorem vSh_free (g : GS) (v : (Nat → Int32)) : vSh (sz_free g v) = vSh g := rfl
theorem vSea_free (g : GS) (v : (Nat → Int32)) : vSea (sz_free g v) = vSea g := rfl
theorem vGa_free (g : GS) (v : (Nat → Int32)) : vGa (sz_free g v) = vGa g := rfl
theorem vSp_free (g : GS) (v : (Nat → Int32)) : vSp (sz_free g v) = vSp g := rfl
theorem vTr_free (g : GS) (v : (Nat → Int32)) : vTr (sz_free g v) = vTr g := rfl
theorem zz_finding_rsize (g : GS) (v : Int32) : z_finding (sz_rsize g v) = z_finding g := rfl
theorem zz_items_rsize (g : GS) (v : Int32) : z_items (sz_rsize g v) = z_items g := rfl
theorem zz_lanes_rsize (g : GS) (v : Int32) : z_lanes (sz_rsize g v) = z_lanes g := rfl
theorem zz_sizes_rsize (g : GS) (v : Int32) : z_sizes (sz_rsize g v) = z_sizes g := rfl
theorem zz_weights_rsize (g : GS) (v : Int32) : z_weights (sz_rsize g v) = z_weights g := rfl
theorem zz_levels_rsize (g : GS) (v : Int32) : z_levels (sz_rsize g v) = z_levels g := rfl
theorem zz_heads_rsize (g : GS) (v : Int32) : z_heads (sz_rsize g v) = z_heads g := rfl
theorem zz_ssize_rsize (g : GS) (v : Int32) : z_ssize (sz_rsize g v) = z_ssize g := rfl
theorem zz_rules_rsize (g : GS) (v : Int32) : z_rules (sz_rsize g v) = z_rules g := rfl
theorem zz_rivers_rsize (g : GS) (v : Int32) : z_rivers (sz_rsize g v) = z_rivers g := rfl
theorem zz_orders_rsize (g : GS) (v : Int32) : z_orders (sz_rsize g v) = z_orders g := rfl
theorem zz_now_rsize (g : GS) (v : Int32) : z_now (sz_rsize g v) = z_now g := rfl
theorem zz_then_rsize (g : GS) (v : Int32) : z_then (sz_rsize g v) = z_then g := rfl
theorem zz_loss_rsize (g : GS) (v : Int32) : z_loss (sz_rsize g v) = z_loss g := rfl
theorem zz_stale_rsize (g : GS) (v : Int32) : z_stale (sz_rsize g v) = z_stale g := rfl
theorem zz_ga_rsize (g : GS) (v : Int32) : z_ga (sz_rsize g v) = z_ga g := rfl
theorem zz_free_rsize (g : GS) (v : Int32) : z_free (sz_rsize g v) = z_free g := rfl
theorem zz_rsize_rsize (g : GS) (v : Int32) : z_rsize (sz_rsize g v) = v := rfl
theorem zz_fmin_rsize (g : GS) (v : Int32) : z_fmin (sz_rsize g v) = z_fmin g := rfl
theorem zz_fpass_rsize (g : GS) (v : Int32) : z_fpass (sz_rsize g v) = z_fpass g := rfl
theorem zz_inTurn_rsize (g : GS) (v : Int32) : z_inTurn (sz_rsize g v) = z_inTurn g := rfl
theorem zz_fsize_rsize (g : GS) (v : Int32) : z_fsize (sz_rsize g v) = z_fsize g := rfl
theorem zz_numbers_rsize (g : GS) (v : Int32) : z_numbers (sz_rsize g v) = z_numbers g := rfl
theorem zz_tlen_rsize (g : GS) (v : Int32) : z_tlen (sz_rsize g v) = z_tlen g := rfl
theorem zz_gk_rsize (g : GS) (v : Int32) : z_gk (sz_rsize g v) = z_gk g := rfl
theorem zz_gm_rsize (g : GS) (v : Int32) : z_gm (sz_rsize g v) = z_gm g := rfl
theorem zz_gh_rsize (g : GS) (v : Int32) : z_gh (sz_rsize g v) = z_gh g := rfl
theorem zz_gf_rsize (g : GS) (v : Int32) : z_gf (sz_rsize g v) = z_gf g := rfl
theorem zz_gn_rsize (g : GS) (v : Int32) : z_gn (sz_rsize g v) = z_gn g := rfl
theorem vSh_rsize (g : GS) (v : Int32) : vSh (sz_rsize g v) = vSh g := rfl
theorem vSea_rsize (g : GS) (v : Int32) : vSea (sz_rsize g v) = vSea g := rfl
theorem vGa_rsize (g : GS) (v : Int32) : vGa (sz_rsize g v) = (z_ga g, v, z_gk g, z_gm g, z_gh g, z_gf g, z_gn g) := rfl
theorem vSp_rsize (g : GS) (v : Int32) : vSp (sz_rsize g v) = vSp g := rfl
theorem vTr_rsize (g : GS) (v : Int32) : vTr (sz_rsize g v) = vTr g := rfl
theorem zz_finding_fmin (g : GS) (v : (Nat → Int32)) : z_finding (sz_fmin g v) = z_finding g := rfl
theorem zz_items_fmin (g : GS) (v : (Nat → Int32)) : z_items (sz_fmin g v) = z_items g := rfl
theorem zz_lanes_fmin (g : GS) (v : (Nat → Int32)) : z_lanes (sz_fmin g v) = z_lanes g := rfl
theorem zz_sizes_fmin (g : GS) (v : (Nat → Int32)) : z_sizes (sz_fmin g v) = z_sizes g := rfl
theorem zz_weights_fmin (g : GS) (v : (Nat → Int32)) : z_weights (sz_fmin g v) = z_weights g := rfl
theorem zz_levels_fmin (g : GS) (v : (Nat → Int32)) : z_levels (sz_fmin g v) = z_levels g := rfl
theorem zz_heads_fmin (g : GS) (v : (Nat → Int32)) : z_heads (sz_fmin g v) = z_heads g := rfl
theorem zz_ssize_fmin (g : GS) (v : (Nat → Int32)) : z_ssize (sz_fmin g v) = z_ssize g := rfl
theorem zz_rules_fmin (g : GS) (v : (Nat → Int32)) : z_rules (sz_fmin g v) = z_rules g := rfl
theorem zz_rivers_fmin (g : GS) (v : (Nat → Int32)) : z_rivers (sz_fmin g v) = z_rivers g := rfl
theorem zz_orders_fmin (g : GS) (v : (Nat → Int32)) : z_orders (sz_fmin g v) = z_orders g := rfl
theorem zz_now_fmin (g : GS) (v : (Nat → Int32)) : z_now (sz_fmin g v) = z_now g := rfl
theorem zz_then_fmin (g : GS) (v : (Nat → Int32)) : z_then (sz_fmin g v) = z_then g := rfl
theorem zz_loss_fmin (g : GS) (v : (Nat → Int32)) : z_loss (sz_fmin g v) = z_loss g := rfl
theorem zz_stale_fmin (g : GS) (v : (Nat → Int32)) : z_stale (sz_fmin g v) = z_stale g := rfl
theorem zz_ga_fmin (g : GS) (v : (Nat → Int32)) : z_ga (sz_fmin g v) = z_ga g := rfl
theorem zz_free_fmin (g : GS) (v : (Nat → Int32)) : z_free (sz_fmin g v) = z_free g := rfl
theorem zz_rsize_fmin (g : GS) (v : (Nat → Int32)) : z_rsize (sz_fmin g v) = z_rsize g := rfl
theorem zz_fmin_fmin (g : GS) (v : (Nat → Int32)) : z_fmin (sz_fmin g v) = v := rfl
theorem zz_fpass_fmin (g : GS) (v : (Nat → Int32)) : z_fpass (sz_fmin g v) = z_fpass g := rfl
theorem zz_inTurn_fmin (g : GS) (v : (Nat → Int32)) : z_inTurn (sz_fmin g v) = z_inTurn g := rfl
theorem zz_fsize_fmin (g : GS) (v : (Nat → Int32)) : z_fsize (sz_fmin g v) = z_fsize g := rfl
theorem zz_numbers_fmin (g : GS) (v : (Nat → Int32)) : z_numbers (sz_fmin g v) = z_numbers g := rfl
theorem zz_tlen_fmin (g : GS) (v : (Nat → Int32)) : z_tlen (sz_fmin g v) = z_tlen g := rfl
theorem zz_gk_fmin (g : GS) (v : (Nat → Int32)) : z_gk (sz_fmin g v) = z_gk g := rfl
theorem zz_gm_fmin (g : GS) (v : (Nat → Int32)) : z_gm (sz_fmin g v) = z_gm g := rfl
theorem zz_gh_fmin (g : GS) (v : (Nat → Int32)) : z_gh (sz_fmin g v) = z_gh g := rfl
theorem zz_gf_fmin (g : GS) (v : (Nat → Int32)) : z_gf (sz_fmin g v) = z_gf g := rfl
theorem zz_gn_fmin (g : GS) (v : (Nat → Int32)) : z_gn (sz_fmin g v) = z_gn g := rfl
theorem vSh_fmin (g : GS) (v : (Nat → Int32)) : vSh (sz_fmin g v) = vSh g := rfl
theorem vSea_fmin (g : GS) (v : (Nat → Int32)) : vSea (sz_fmin g v) = vSea g := rfl
theorem vGa_fmin (g : GS) (v : (Nat → Int32)) : vGa (sz_fmin g v) = vGa g := rfl
theorem vSp_fmin (g : GS) (v : (Nat → Int32)) : vSp (sz_fmin g v) = (v, z_fpass g, z_inTurn g, z_fsize g) := rfl
theorem vTr_fmin (g : GS) (v : (Nat → Int32)) : vTr (sz_fmin g v) = vTr g := rfl
theorem zz_finding_fpass (g : GS) (v : (Nat → Int32)) : z_finding (sz_fpass g v) = z_finding g := rfl
theorem zz_items_fpass (g : GS) (v : (Nat → Int32)) : z_items (sz_fpass g v) = z_items g := rfl
theorem zz_lanes_fpass (g : GS) (v : (Nat → Int32)) : z_lanes (sz_fpass g v) = z_lanes g := rfl
theorem zz_sizes_fpass (g : GS) (v : (Nat → Int32)) : z_sizes (sz_fpass g v) = z_sizes g := rfl
theorem zz_weights_fpass (g : GS) (v : (Nat → Int32)) : z_weights (sz_fpass g v) = z_weights g := rfl
theorem zz_levels_fpass (g : GS) (v : (Nat → Int32)) : z_levels (sz_fpass g v) = z_levels g := rfl
theorem zz_heads_fpass (g : GS) (v : (Nat → Int32)) : z_heads (sz_fpass g v) = z_heads g := rfl
theorem zz_ssize_fpass (g : GS) (v : (Nat → Int32)) : z_ssize (sz_fpass g v) = z_ssize g := rfl
theorem zz_rules_fpass (g : GS) (v : (Nat → Int32)) : z_rules (sz_fpass g v) = z_rules g := rfl
theorem zz_rivers_fpass (g : GS) (v : (Nat → Int32)) : z_rivers (sz_fpass g v) = z_rivers g := rfl
theorem zz_orders_fpass (g : GS) (v : (Nat → Int32)) : z_orders (sz_fpass g v) = z_orders g := rfl
theorem zz_now_fpass (g : GS) (v : (Nat → Int32)) : z_now (sz_fpass g v) = z_now g := rfl
theorem zz_then_fpass (g : GS) (v : (Nat → Int32)) : z_then (sz_fpass g v) = z_then g := rfl
theorem zz_loss_fpass (g : GS) (v : (Nat → Int32)) : z_loss (sz_fpass g v) = z_loss g := rfl
theorem zz_stale_fpass (g : GS) (v : (Nat → Int32)) : z_stale (sz_fpass g v) = z_stale g := rfl
theorem zz_ga_fpass (g : GS) (v : (Nat → Int32)) : z_ga (sz_fpass g v) = z_ga g := rfl
theorem zz_free_fpass (g : GS) (v : (Nat → Int32)) : z_free (sz_fpass g v) = z_free g := rfl
theorem zz_rsize_fpass (g : GS) (v : (Nat → Int32)) : z_rsize (sz_fpass g v) = z_rsize g := rfl
theorem zz_fmin_fpass (g : GS) (v : (Nat → Int32)) : z_fmin (sz_fpass g v) = z_fmin g := rfl
theorem zz_fpass_fpass (g : GS) (v : (Nat → Int32)) : z_fpass (sz_fpass g v) = v := rfl
theorem zz_inTurn_fpass (g : GS) (v : (Nat → Int32)) : z_inTurn (sz_fpass g v) = z_inTurn g := rfl
theorem zz_fsize_fpass (g : GS) (v : (Nat → Int32)) : z_fsize (sz_fpass g v) = z_fsize g := rfl
theorem zz_numbers_fpass (g : GS) (v : (Nat → Int32)) : z_numbers (sz_fpass g v) = z_numbers g := rfl
theorem zz_tlen_fpass (g : GS) (v : (Nat → Int32)) : z_tlen (sz_fpass g v) = z_tlen g := rfl
theorem zz_gk_fpass (g : GS) (v : (Nat → Int32)) : z_gk (sz_fpass g v) = z_gk g := rfl
theorem zz_gm_fpass (g : GS) (v : (Nat → Int32)) : z_gm (sz_fpass g v) = z_gm g := rfl
theorem zz_gh_fpass (g : GS) (v : (Nat → Int32)) : z_gh (sz_fpass g v) = z_gh g := rfl
theorem zz_gf_fpass (g : GS) (v : (Nat → Int32)) : z_gf (sz_fpass g v) = z_gf g := rfl
theorem zz_gn_fpass (g : GS) (v : (Nat → Int32)) : z_gn (sz_fpass g v) = z_gn g := rfl
theorem vSh_fpass (g : GS) (v : (Nat → Int32)) : vSh (sz_fpass g v) = vSh g := rfl
theorem vSea_fpass (g : GS) (v : (Nat → Int32)) : vSea (sz_fpass g v) = vSea g := rfl
theorem vGa_fpass (g : GS) (v : (Nat → Int32)) : vGa (sz_fpass g v) = vGa g := rfl
theorem vSp_fpass (g : GS) (v : (Nat → Int32)) : vSp (sz_fpass g v) = (z_fmin g, v, z_inTurn g, z_fsize g) := rfl
theorem vTr_fpass (g : GS) (v : (Nat → Int32)) : vTr (sz_fpass g v) = vTr g := rfl
theorem zz_finding_inTurn (g : GS) (v : (Nat → Int32)) : z_finding (sz_inTurn g v) = z_finding g := rfl
theorem zz_items_inTurn (g : GS) (v : (Nat → Int32)) : z_items (sz_inTurn g v) = z_items g := rfl
theorem zz_lanes_inTurn (g : GS) (v : (Nat → Int32)) : z_lanes (sz_inTurn g v) = z_lanes g := rfl
theorem zz_sizes_inTurn (g : GS) (v : (Nat → Int32)) : z_sizes (sz_inTurn g v) = z_sizes g := rfl
theorem zz_weights_inTurn (g : GS) (v : (Nat → Int32)) : z_weights (sz_inTurn g v) = z_weights g := rfl
theorem zz_levels_inTurn (g : GS) (v : (Nat → Int32)) : z_levels (sz_inTurn g v) = z_levels g := rfl
theorem zz_heads_inTurn (g : GS) (v : (Nat → Int32)) : z_heads (sz_inTurn g v) = z_heads g := rfl
theorem zz_ssize_inTurn (g : GS) (v : (Nat → Int32)) : z_ssize (sz_inTurn g v) = z_ssize g := rfl
theorem zz_rules_inTurn (g : GS) (v : (Nat → Int32)) : z_rules (sz_inTurn g v) = z_rules g := rfl
theorem zz_rivers_inTurn (g : GS) (v : (Nat → Int32)) : z_rivers (sz_inTurn g v) = z_rivers g := rfl
theorem zz_orders_inTurn (g : GS) (v : (Nat → Int32)) : z_orders (sz_inTurn g v) = z_orders g := rfl
theorem zz_now_inTurn (g : GS) (v : (Nat → Int32)) : z_now (sz_inTurn g v) = z_now g := rfl
theorem zz_then_inTurn (g : GS) (v : (Nat → Int32)) : z_then (sz_inTurn g v) = z_then g := rfl
theorem zz_loss_inTurn (g : GS) (v : (Nat → Int32)) : z_loss (sz_inTurn g v) = z_loss g := rfl
theorem zz_stale_inTurn (g : GS) (v : (Nat → Int32)) : z_stale (sz_inTurn g v) = z_stale g := rfl
theorem zz_ga_inTurn (g : GS) (v : (Nat → Int32)) : z_ga (sz_inTurn g v) = z_ga g := rfl
theorem zz_free_inTurn (g : GS) (v : (Nat → Int32)) : z_free (sz_inTurn g v) = z_free g := rfl
theorem zz_rsize_inTurn (g : GS) (v : (Nat → Int32)) : z_rsize (sz_inTurn g v) = z_rsize g := rfl
theorem zz_fmin_inTurn (g : GS) (v : (Nat → Int32)) : z_fmin (sz_inTurn g v) = z_fmin g := rfl
theorem zz_fpass_inTurn (g : GS) (v : (Nat → Int32)) : z_fpass (sz_inTurn g v) = z_fpass g := rfl
theorem zz_inTurn_inTurn (g : GS) (v : (Nat → Int32)) : z_inTurn (sz_inTurn g v) = v := rfl
theorem zz_fsize_inTurn (g : GS) (v : (Nat → Int32)) : z_fsize (sz_inTurn g v) = z_fsize g := rfl
theorem zz_numbers_inTurn (g : GS) (v : (Nat → Int32)) : z_numbers (sz_inTurn g v) = z_numbers g := rfl
theorem zz_tlen_inTurn (g : GS) (v : (Nat → Int32)) : z_tlen (sz_inTurn g v) = z_tlen g := rfl
theorem zz_gk_inTurn (g : GS) (v : (Nat → Int32)) : z_gk (sz_inTurn g v) = z_gk g := rfl
theorem zz_gm_inTurn (g : GS) (v : (Nat → Int32)) : z_gm (sz_inTurn g v) = z_gm g := rfl
theorem zz_gh_inTurn (g : GS) (v : (Nat → Int32)) : z_gh (sz_inTurn g v) = z_gh g := rfl
theorem zz_gf_inTurn (g : GS) (v : (Nat → Int32)) : z_gf (sz_inTurn g v) = z_gf g := rfl
theorem zz_gn_inTurn (g : GS) (v : (Nat → Int32)) : z_gn (sz_inTurn g v) = z_gn g := rfl
theorem vSh_inTurn (g : GS) (v : (Nat → Int32)) : vSh (sz_inTurn g v) = vSh g := rfl
theorem vSea_inTurn (g : GS) (v : (Nat → Int32)) : vSea (sz_inTurn g v) = vSea g := rfl
theorem vGa_inTurn (g : GS) (v : (Nat → Int32)) : vGa (sz_inTurn g v) = vGa g := rfl
theorem vSp_inTurn (g : GS) (v : (Nat → Int32)) : vSp (sz_inTurn g v) = (z_fmin g, z_fpass g, v, z_fsize g) := rfl
theorem vTr_inTurn (g : GS) (v : (Nat → Int32)) : vTr (sz_inTurn g v) = vTr g := rfl
theorem zz_finding_fsize (g : GS) (v : Int32) : z_finding (sz_fsize g v) = z_finding g := rfl
theorem zz_items_fsize (g : GS) (v : Int32) : z_items (sz_fsize g v) = z_items g := rfl
theorem zz_lanes_fsize (g : GS) (v : Int32) : z_lanes (sz_fsize g v) = z_lanes g := rfl
theorem zz_sizes_fsize (g : GS) (v : Int32) : z_sizes (sz_fsize g v) = z_sizes g := rfl
theorem zz_weights_fsize (g : GS) (v : Int32) : z_weights (sz_fsize g v) = z_weights g := rfl
theorem zz_levels_fsize (g : GS) (v : Int32) : z_levels (sz_fsize g v) = z_levels g := rfl
theorem zz_heads_fsize (g : GS) (v : Int32) : z_heads (sz_fsize g v) = z_heads g := rfl
theorem zz_ssize_fsize (g : GS) (v : Int32) : z_ssize (sz_fsize g v) = z_ssize g := rfl
theorem zz_rules_fsize (g : GS) (v : Int32) : z_rules (sz_fsize g v) = z_rules g := rfl
theorem zz_rivers_fsize (g : GS) (v : Int32) : z_rivers (sz_fsize g v) = z_rivers g := rfl
theorem zz_orders_fsize (g : GS) (v : Int32) : z_orders (sz_fsize g v) = z_orders g := rfl
theorem zz_now_fsize (g : GS) (v : Int32) : z_now (sz_fsize g v) = z_now g := rfl
theorem zz_then_fsize (g : GS) (v : Int32) : z_then (sz_fsize g v) = z_then g := rfl
theorem zz_loss_fsize (g : GS) (v : Int32) : z_loss (sz_fsize g v) = z_loss g := rfl
theorem zz_stale_fsize (g : GS) (v : Int32) : z_stale (sz_fsize g v) = z_stale g := rfl
theorem zz_ga_fsize (g : GS) (v : Int32) : z_ga (sz_fsize g v) = z_ga g := rfl
theorem zz_free_fsize (g : GS) (v : Int32) : z_free (sz_fsize g v) = z_free g := rfl
theorem zz_rsize_fsize (g : GS) (v : Int32) : z_rsize (sz_fsize g v) = z_rsize g := rfl
theorem zz_fmin_fsize (g : GS) (v : Int32) : z_fmin (sz_fsize g v) = z_fmin g := rfl
theorem zz_fpass_fsize (g : GS) (v : Int32) : z_fpass (sz_fsize g v) = z_fpass g := rfl
theorem zz_inTurn_fsize (g : GS) (v : Int32) : z_inTurn (sz_fsize g v) = z_inTurn g := rfl
theorem zz_fsize_fsize (g : GS) (v : Int32) : z_fsize (sz_fsize g v) = v := rfl
theorem zz_numbers_fsize (g : GS) (v : Int32) : z_numbers (sz_fsize g v) = z_numbers g := rfl
theorem zz_tlen_fsize (g : GS) (v : Int32) : z_tlen (sz_fsize g v) = z_tlen g := rfl
theorem zz_gk_fsize (g : GS) (v : Int32) : z_gk (sz_fsize g v) = z_gk g := rfl
theorem zz_gm_fsize (g : GS) (v : Int32) : z_gm (sz_fsize g v) = z_gm g := rfl
theorem zz_gh_fsize (g : GS) (v : Int32) : z_gh (sz_fsize g v) = z_gh g := rfl
theorem zz_gf_fsize (g : GS) (v : Int32) : z_gf (sz_fsize g v) = z_gf g := rfl
theorem zz_gn_fsize (g : GS) (v : Int32) : z_gn (sz_fsize g v) = z_gn g := rfl
theorem vSh_fsize (g : GS) (v : Int32) : vSh (sz_fsize g v) = vSh g := rfl
theorem vSea_fsize (g : GS) (v : Int32) : vSea (sz_fsize g v) = vSea g := rfl
theorem vGa_fsize (g : GS) (v : Int32) : vGa (sz_fsize g v) = vGa g := rfl
theorem vSp_fsize (g : GS) (v : Int32) : vSp (sz_fsize g v) = (z_fmin g, z_fpass g, z_inTurn g, v) := rfl
theorem vTr_fsize (g : GS) (v : Int32) : vTr (sz_fsize g v) = vTr g := rfl
theorem zz_finding_numbers (g : GS) (v : (Nat → Int32)) : z_finding (sz_numbers g v) = z_finding g := rfl
theorem zz_items_numbers (g : GS) (v : (Nat → Int32)) : z_items (sz_numbers g v) = z_items g := rfl
theorem zz_lanes_numbers (g : GS) (v : (Nat → Int32)) : z_lanes (sz_numbers g v) = z_lanes g := rfl
theorem zz_sizes_numbers (g : GS) (v : (Nat → Int32)) : z_sizes (sz_numbers g v) = z_sizes g := rfl
theorem zz_weights_numbers (g : GS) (v : (Nat → Int32)) : z_weights (sz_numbers g v) = z_weights g := rfl
theorem zz_levels_numbers (g : GS) (v : (Nat → Int32)) : z_levels (sz_numbers g v) = z_levels g := rfl
theorem zz_heads_numbers (g : GS) (v : (Nat → Int32)) : z_heads (sz_numbers g v) = z_heads g := rfl
theorem zz_ssize_numbers (g : GS) (v : (Nat → Int32)) : z_ssize (sz_numbers g v) = z_ssize g := rfl
theorem zz_rules_numbers (g : GS) (v : (Nat → Int32)) : z_rules (sz_numbers g v) = z_rules g := rfl
theorem zz_rivers_numbers (g : GS) (v : (Nat → Int32)) : z_rivers (sz_numbers g v) = z_rivers g := rfl
theorem zz_orders_numbers (g : GS) (v : (Nat → Int32)) : z_orders (sz_numbers g v) = z_orders g := rfl
theorem zz_now_numbers (g : GS) (v : (Nat → Int32)) : z_now (sz_numbers g v) = z_now g := rfl
theorem zz_then_numbers (g : GS) (v : (Nat → Int32)) : z_then (sz_numbers g v) = z_then g := rfl
theorem zz_loss_numbers (g : GS) (v : (Nat → Int32)) : z_loss (sz_numbers g v) = z_loss g := rfl
theorem zz_stale_numbers (g : GS) (v : (Nat → Int32)) : z_stale (sz_numbers g v) = z_stale g := rfl
theorem zz_ga_numbers (g : GS) (v : (Nat → Int32)) : z_ga (sz_numbers g v) = z_ga g := rfl
theorem zz_free_numbers (g : GS) (v : (Nat → Int32)) : z_free (sz_numbers g v) = z_free g := rfl
theorem zz_rsize_numbers (g : GS) (v : (Nat → Int32)) : z_rsize (sz_numbers g v) = z_rsize g := rfl
theorem zz_fmin_numbers (g : GS) (v : (Nat → Int32)) : z_fmin (sz_numbers g v) = z_fmin g := rfl
theorem zz_fpass_numbers (g : GS) (v : (Nat → Int32)) : z_fpass (sz_numbers g v) = z_fpass g := rfl
theorem zz_inTurn_numbers (g : GS) (v : (Nat → Int32)) : z_inTurn (sz_numbers g v) = z_inTurn g := rfl
theorem zz_fsize_numbers (g : GS) (v : (Nat → Int32)) : z_fsize (sz_numbers g v) = z_fsize g := rfl
theorem zz_numbers_numbers (g : GS) (v : (Nat → Int32)) : z_numbers (sz_numbers g v) = v := rfl
theorem zz_tlen_numbers (g : GS) (v : (Nat → Int32)) : z_tlen (sz_numbers g v) = z_tlen g := rfl
theorem zz_gk_numbers (g : GS) (v : (Nat → Int32)) : z_gk (sz_numbers g v) = z_gk g := rfl
theorem zz_gm_numbers (g : GS) (v : (Nat → Int32)) : z_gm (sz_numbers g v) = z_gm g := rfl
theorem zz_gh_numbers (g : GS) (v : (Nat → Int32)) : z_gh (sz_numbers g v) = z_gh g := rfl
theorem zz_gf_numbers (g : GS) (v : (Nat → Int32)) : z_gf (sz_numbers g v) = z_gf g := rfl
theorem zz_gn_numbers (g : GS) (v : (Nat → Int32)) : z_gn (sz_numbers g v) = z_gn g := rfl
theorem vSh_numbers (g : GS) (v : (Nat → Int32)) : vSh (sz_numbers g v) = vSh g := rfl
theorem vSea_numbers (g : GS) (v : (Nat → Int32)) : vSea (sz_numbers g v) = vSea g := rfl
theorem vGa_numbers (g : GS) (v : (Nat → Int32)) : vGa (sz_numbers g v) = vGa g := rfl
theorem vSp_numbers (g : GS) (v : (Nat → Int32)) : vSp (sz_numbers g v) = vSp g := rfl
theorem vTr_numbers (g : GS) (v : (Nat → Int32)) : vTr (sz_numbers g v) = (v, z_tlen g) := rfl
theorem zz_finding_tlen (g : GS) (v : Int32) : z_finding (sz_tlen g v) = z_finding g := rfl
theorem zz_items_tlen (g : GS) (v : Int32) : z_items (sz_tlen g v) = z_items g := rfl
theorem zz_lanes_tlen (g : GS) (v : Int32) : z_lanes (sz_tlen g v) = z_lanes g := rfl
theorem zz_sizes_tlen (g : GS) (v : Int32) : z_sizes (sz_tlen g v) = z_sizes g := rfl
theorem zz_weights_tlen (g : GS) (v : Int32) : z_weights (sz_tlen g v) = z_weights g := rfl
theorem zz_levels_tlen (g : GS) (v : Int32) : z_levels (sz_tlen g v) = z_levels g := rfl
theorem zz_heads_tlen (g : GS) (v : Int32) : z_heads (sz_tlen g v) = z_heads g := rfl
theorem zz_ssize_tlen (g : GS) (v : Int32) : z_ssize (sz_tlen g v) = z_ssize g := rfl
theorem zz_rules_tlen (g : GS) (v : Int32) : z_rules (sz_tlen g v) = z_rules g := rfl
theorem zz_rivers_tlen (g : GS) (v : Int32) : z_rivers (sz_tlen g v) = z_rivers g := rfl
theorem zz_orders_tlen (g : GS) (v : Int32) : z_orders (sz_tlen g v) = z_orders g := rfl
theorem zz_now_tlen (g : GS) (v : Int32) : z_now (sz_tlen g v) = z_now g := rfl
theorem zz_then_tlen (g : GS) (v : Int32) : z_then (sz_tlen g v) = z_then g := rfl
theorem zz_loss_tlen (g : GS) (v : Int32) : z_loss (sz_tlen g v) = z_loss g := rfl
theorem zz_stale_tlen (g : GS) (v : Int32) : z_stale (sz_tlen g v) = z_stale g := rfl
theorem zz_ga_tlen (g : GS) (v : Int32) : z_ga (sz_tlen g v) = z_ga g := rfl
theorem zz_free_tlen (g : GS) (v : Int32) : z_free (sz_tlen g v) = z_free g := rfl
theorem zz_rsize_tlen (g : GS) (v : Int32) : z_rsize (sz_tlen g v) = z_rsize g := rfl
theorem zz_fmin_tlen (g : GS) (v : Int32) : z_fmin (sz_tlen g v) = z_fmin g := rfl
theorem zz_fpass_tlen (g : GS) (v : Int32) : z_fpass (sz_tlen g v) = z_fpass g := rfl
theorem zz_inTurn_tlen (g : GS) (v : Int32) : z_inTurn (sz_tlen g v) = z_inTurn g := rfl
theorem zz_fsize_tlen (g : GS) (v : Int32) : z_fsize (sz_tlen g v) = z_fsize g := rfl
theorem zz_numbers_tlen (g : GS) (v : Int32) : z_numbers (sz_tlen g v) = z_numbers g := rfl
theorem zz_tlen_tlen (g : GS) (v : Int32) : z_tlen (sz_tlen g v) = v := rfl
theorem zz_gk_tlen (g : GS) (v : Int32) : z_gk (sz_tlen g v) = z_gk g := rfl
theorem zz_gm_tlen (g : GS) (v : Int32) : z_gm (sz_tlen g v) = z_gm g := rfl
theorem zz_gh_tlen (g : GS) (v : Int32) : z_gh (sz_tlen g v) = z_gh g := rfl
theorem zz_gf_tlen (g : GS) (v : Int32) : z_gf (sz_tlen g v) = z_gf g := rfl
theorem zz_gn_tlen (g : GS) (v : Int32) : z_gn (sz_tlen g v) = z_gn g := rfl
theorem vSh_tlen (g : GS) (v : Int32) : vSh (sz_tlen g v) = vSh g := rfl
theorem vSea_tlen (g : GS) (v : Int32) : vSea (sz_tlen g v) = vSea g := rfl
theorem vGa_tlen (g : GS) (v : Int32) : vGa (sz_tlen g v) = vGa g := rfl
theorem vSp_tlen (g : GS) (v : Int32) : vSp (sz_tlen g v) = vSp g := rfl
theorem vTr_tlen (g : GS) (v : Int32) : vTr (sz_tlen g v) = (z_numbers g, v) := rfl
theorem zz_finding_gk (g : GS) (v : (Nat → Nat)) : z_finding (sz_gk g v) = z_finding g := rfl
theorem zz_items_gk (g : GS) (v : (Nat → Nat)) : z_items (sz_gk g v) = z_items g := rfl
theorem zz_lanes_gk (g : GS) (v : (Nat → Nat)) : z_lanes (sz_gk g v) = z_lanes g := rfl
theorem zz_sizes_gk (g : GS) (v : (Nat → Nat)) : z_sizes (sz_gk g v) = z_sizes g := rfl
theorem zz_weights_gk (g : GS) (v : (Nat → Nat)) : z_weights (sz_gk g v) = z_weights g := rfl
theorem zz_levels_gk (g : GS) (v : (Nat → Nat)) : z_levels (sz_gk g v) = z_levels g := rfl
theorem zz_heads_gk (g : GS) (v : (Nat → Nat)) : z_heads (sz_gk g v) = z_heads g := rfl
theorem zz_ssize_gk (g : GS) (v : (Nat → Nat)) : z_ssize (sz_gk g v) = z_ssize g := rfl
theorem zz_rules_gk (g : GS) (v : (Nat → Nat)) : z_rules (sz_gk g v) = z_rules g := rfl
theorem zz_rivers_gk (g : GS) (v : (Nat → Nat)) : z_rivers (sz_gk g v) = z_rivers g := rfl
theorem zz_orders_gk (g : GS) (v : (Nat → Nat)) : z_orders (sz_gk g v) = z_orders g := rfl
theorem zz_now_gk (g : GS) (v : (Nat → Nat)) : z_now (sz_gk g v) = z_now g := rfl
theorem zz_then_gk (g : GS) (v : (Nat → Nat)) : z_then (sz_gk g v) = z_then g := rfl
theorem zz_loss_gk (g : GS) (v : (Nat → Nat)) : z_loss (sz_gk g v) = z_loss g := rfl
theorem zz_stale_gk (g : GS) (v : (Nat → Nat)) : z_stale (sz_gk g v) = z_stale g := rfl
theorem zz_ga_gk (g : GS) (v : (Nat → Nat)) : z_ga (sz_gk g v) = z_ga g := rfl
theorem zz_free_gk (g : GS) (v : (Nat → Nat)) : z_free (sz_gk g v) = z_free g := rfl
theorem zz_rsize_gk (g : GS) (v : (Nat → Nat)) : z_rsize (sz_gk g v) = z_rsize g := rfl
theorem zz_fmin_gk (g : GS) (v : (Nat → Nat)) : z_fmin (sz_gk g v) = z_fmin g := rfl
theorem zz_fpass_gk (g : GS) (v : (Nat → Nat)) : z_fpass (sz_gk g v) = z_fpass g := rfl
theorem zz_inTurn_gk (g : GS) (v : (Nat → Nat)) : z_inTurn (sz_gk g v) = z_inTurn g := rfl
theorem zz_fsize_gk (g : GS) (v : (Nat → Nat)) : z_fsize (sz_gk g v) = z_fsize g := rfl
theorem zz_numbers_gk (g : GS) (v : (Nat → Nat)) : z_numbers (sz_gk g v) = z_numbers g := rfl
theorem zz_tlen_gk (g : GS) (v : (Nat → Nat)) : z_tlen (sz_gk g v) = z_tlen g := rfl
theorem zz_gk_gk (g : GS) (v : (Nat → Nat)) : z_gk (sz_gk g v) = v := rfl
theorem zz_gm_gk (g : GS) (v : (Nat → Nat)) : z_gm (sz_gk g v) = z_gm g := rfl
theorem zz_gh_gk (g : GS) (v : (Nat → Nat)) : z_gh (sz_gk g v) = z_gh g := rfl
theorem zz_gf_gk (g : GS) (v : (Nat → Nat)) : z_gf (sz_gk g v) = z_gf g := rfl
theorem zz_gn_gk (g : GS) (v : (Nat → Nat)) : z_gn (sz_gk g v) = z_gn g := rfl
theorem vSh_gk (g : GS) (v : (Nat → Nat)) : vSh (sz_gk g v) = vSh g := rfl
theorem vSea_gk (g : GS) (v : (Nat → Nat)) : vSea (sz_gk g v) = vSea g := rfl
theorem vGa_gk (g : GS) (v : (Nat → Nat)) : vGa (sz_gk g v) = (z_ga g, z_rsize g, v, z_gm g, z_gh g, z_gf g, z_gn g) := rfl
theorem vSp_gk (g : GS) (v : (Nat → Nat)) : vSp (sz_gk g v) = vSp g := rfl
theorem vTr_gk (g : GS) (v : (Nat → Nat)) : vTr (sz_gk g v) = vTr g := rfl
theorem zz_finding_gm (g : GS) (v : (Nat → Int32)) : z_finding (sz_gm g v) = z_finding g := rfl
theorem zz_items_gm (g : GS) (v : (Nat → Int32)) : z_items (sz_gm g v) = z_items g := rfl
theorem zz_lanes_gm (g : GS) (v : (Nat → Int32)) : z_lanes (sz_gm g v) = z_lanes g := rfl
theorem zz_sizes_gm (g : GS) (v : (Nat → Int32)) : z_sizes (sz_gm g v) = z_sizes g := rfl
theorem zz_weights_gm (g : GS) (v : (Nat → Int32)) : z_weights (sz_gm g v) = z_weights g := rfl
theorem zz_levels_gm (g : GS) (v : (Nat → Int32)) : z_levels (sz_gm g v) = z_levels g := rfl
theorem zz_heads_gm (g : GS) (v : (Nat → Int32)) : z_heads (sz_gm g v) = z_heads g := rfl
theorem zz_ssize_gm (g : GS) (v : (Nat → Int32)) : z_ssize (sz_gm g v) = z_ssize g := rfl
theorem zz_rules_gm (g : GS) (v : (Nat → Int32)) : z_rules (sz_gm g v) = z_rules g := rfl
theorem zz_rivers_gm (g : GS) (v : (Nat → Int32)) : z_rivers (sz_gm g v) = z_rivers g := rfl
theorem zz_orders_gm (g : GS) (v : (Nat → Int32)) : z_orders (sz_gm g v) = z_orders g := rfl
theorem zz_now_gm (g : GS) (v : (Nat → Int32)) : z_now (sz_gm g v) = z_now g := rfl
theorem zz_then_gm (g : GS) (v : (Nat → Int32)) : z_then (sz_gm g v) = z_then g := rfl
theorem zz_loss_gm (g : GS) (v : (Nat → Int32)) : z_loss (sz_gm g v) = z_loss g := rfl
theorem zz_stale_gm (g : GS) (v : (Nat → Int32)) : z_stale (sz_gm g v) = z_stale g := rfl
theorem zz_ga_gm (g : GS) (v : (Nat → Int32)) : z_ga (sz_gm g v) = z_ga g := rfl
theorem zz_free_gm (g : GS) (v : (Nat → Int32)) : z_free (sz_gm g v) = z_free g := rfl
theorem zz_rsize_gm (g : GS) (v : (Nat → Int32)) : z_rsize (sz_gm g v) = z_rsize g := rfl
theorem zz_fmin_gm (g : GS) (v : (Nat → Int32)) : z_fmin (sz_gm g v) = z_fmin g := rfl
theorem zz_fpass_gm (g : GS) (v : (Nat → Int32)) : z_fpass (sz_gm g v) = z_fpass g := rfl
theorem zz_inTurn_gm (g : GS) (v : (Nat → Int32)) : z_inTurn (sz_gm g v) = z_inTurn g := rfl
theorem zz_fsize_gm (g : GS) (v : (Nat → Int32)) : z_fsize (sz_gm g v) = z_fsize g := rfl
theorem zz_numbers_gm (g : GS) (v : (Nat → Int32)) : z_numbers (sz_gm g v) = z_numbers g := rfl
theorem zz_tlen_gm (g : GS) (v : (Nat → Int32)) : z_tlen (sz_gm g v) = z_tlen g := rfl
theorem zz_gk_gm (g : GS) (v : (Nat → Int32)) : z_gk (sz_gm g v) = z_gk g := rfl
theorem zz_gm_gm (g : GS) (v : (Nat → Int32)) : z_gm (sz_gm g v) = v := rfl
theorem zz_gh_gm (g : GS) (v : (Nat → Int32)) : z_gh (sz_gm g v) = z_gh g := rfl
theorem zz_gf_gm (g : GS) (v : (Nat → Int32)) : z_gf (sz_gm g v) = z_gf g := rfl
theorem zz_gn_gm (g : GS) (v : (Nat → Int32)) : z_gn (sz_gm g v) = z_gn g := rfl
theorem vSh_gm (g : GS) (v : (Nat → Int32)) : vSh (sz_gm g v) = vSh g := rfl
theorem vSea_gm (g : GS) (v : (Nat → Int32)) : vSea (sz_gm g v) = vSea g := rfl
theorem vGa_gm (g : GS) (v : (Nat → Int32)) : vGa (sz_gm g v) = (z_ga g, z_rsize g, z_gk g, v, z_gh g, z_gf g, z_gn g) := rfl
theorem vSp_gm (g : GS) (v : (Nat → Int32)) : vSp (sz_gm g v) = vSp g := rfl
theorem vTr_gm (g : GS) (v : (Nat → Int32)) : vTr (sz_gm g v) = vTr g := rfl
theorem zz_finding_gh (g : GS) (v : (Nat → Int32)) : z_finding (sz_gh g v) = z_finding g := rfl
theorem zz_items_gh (g : GS) (v : (Nat → Int32)) : z_items (sz_gh g v) = z_items g := rfl
theorem zz_lanes_gh (g : GS) (v : (Nat → Int32)) : z_lanes (sz_gh g v) = z_lanes g := rfl
theorem zz_sizes_gh (g : GS) (v : (Nat → Int32)) : z_sizes (sz_gh g v) = z_sizes g := rfl
theorem zz_weights_gh (g : GS) (v : (Nat → Int32)) : z_weights (sz_gh g v) = z_weights g := rfl
theorem zz_levels_gh (g : GS) (v : (Nat → Int32)) : z_levels (sz_gh g v) = z_levels g := rfl
theorem zz_heads_gh (g : GS) (v : (Nat → Int32)) : z_heads (sz_gh g v) = z_heads g := rfl
theorem zz_ssize_gh (g : GS) (v : (Nat → Int32)) : z_ssize (sz_gh g v) = z_ssize g := rfl
theorem zz_rules_gh (g : GS) (v : (Nat → Int32)) : z_rules (sz_gh g v) = z_rules g := rfl
theorem zz_rivers_gh (g : GS) (v : (Nat → Int32)) : z_rivers (sz_gh g v) = z_rivers g := rfl
theorem zz_orders_gh (g : GS) (v : (Nat → Int32)) : z_orders (sz_gh g v) = z_orders g := rfl
theorem zz_now_gh (g : GS) (v : (Nat → Int32)) : z_now (sz_gh g v) = z_now g := rfl
theorem zz_then_gh (g : GS) (v : (Nat → Int32)) : z_then (sz_gh g v) = z_then g := rfl
theorem zz_loss_gh (g : GS) (v : (Nat → Int32)) : z_loss (sz_gh g v) = z_loss g := rfl
theorem zz_stale_gh (g : GS) (v : (Nat → Int32)) : z_stale (sz_gh g v) = z_stale g := rfl
theorem zz_ga_gh (g : GS) (v : (Nat → Int32)) : z_ga (sz_gh g v) = z_ga g := rfl
theorem zz_free_gh (g : GS) (v : (Nat → Int32)) : z_free (sz_gh g v) = z_free g := rfl
theorem zz_rsize_gh (g : GS) (v : (Nat → Int32)) : z_rsize (sz_gh g v) = z_rsize g := rfl
theorem zz_fmin_gh (g : GS) (v : (Nat → Int32)) : z_fmin (sz_gh g v) = z_fmin g := rfl
theorem zz_fpass_gh (g : GS) (v : (Nat → Int32)) : z_fpass (sz_gh g v) = z_fpass g := rfl
theorem zz_inTurn_gh (g : GS) (v : (Nat → Int32)) : z_inTurn (sz_gh g v) = z_inTurn g := rfl
theorem zz_fsize_gh (g : GS) (v : (Nat → Int32)) : z_fsize (sz_gh g v) = z_fsize g := rfl
theorem zz_numbers_gh (g : GS) (v : (Nat → Int32)) : z_numbers (sz_gh g v) = z_numbers g := rfl
theorem zz_tlen_gh (g : GS) (v : (Nat → Int32)) : z_tlen (sz_gh g v) = z_tlen g := rfl
theorem zz_gk_gh (g : GS) (v : (Nat → Int32)) : z_gk (sz_gh g v) = z_gk g := rfl
theorem zz_gm_gh (g : GS) (v : (Nat → Int32)) : z_gm (sz_gh g v) = z_gm g := rfl
theorem zz_gh_gh (g : GS) (v : (Nat → Int32)) : z_gh (sz_gh g v) = v := rfl
theorem zz_gf_gh (g : GS) (v : (Nat → Int32)) : z_gf (sz_gh g v) = z_gf g := rfl
theorem zz_gn_gh (g : GS) (v : (Nat → Int32)) : z_gn (sz_gh g v) = z_gn g := rfl
theorem vSh_gh (g : GS) (v : (Nat → Int32)) : vSh (sz_gh g v) = vSh g := rfl
theorem vSea_gh (g : GS) (v : (Nat → Int32)) : vSea (sz_gh g v) = vSea g := rfl
theorem vGa_gh (g : GS) (v : (Nat → Int32)) : vGa (sz_gh g v) = (z_ga g, z_rsize g, z_gk g, z_gm g, v, z_gf g, z_gn g) := rfl
theorem vSp_gh (g : GS) (v : (Nat → Int32)) : vSp (sz_gh g v) = vSp g := rfl
theorem vTr_gh (g : GS) (v : (Nat → Int32)) : vTr (sz_gh g v) = vTr g := rfl
theorem zz_finding_gf (g : GS) (v : (Nat → Int32)) : z_finding (sz_gf g v) = z_finding g := rfl
theorem zz_items_gf (g : GS) (v : (Nat → Int32)) : z_items (sz_gf g v) = z_items g := rfl
theorem zz_lanes_gf (g : GS) (v : (Nat → Int32)) : z_lanes (sz_gf g v) = z_lanes g := rfl
theorem zz_sizes_gf (g : GS) (v : (Nat → Int32)) : z_sizes (sz_gf g v) = z_sizes g := rfl
theorem zz_weights_gf (g : GS) (v : (Nat → Int32)) : z_weights (sz_gf g v) = z_weights g := rfl
theorem zz_levels_gf (g : GS) (v : (Nat → Int32)) : z_levels (sz_gf g v) = z_levels g := rfl
theorem zz_heads_gf (g : GS) (v : (Nat → Int32)) : z_heads (sz_gf g v) = z_heads g := rfl
theorem zz_ssize_gf (g : GS) (v : (Nat → Int32)) : z_ssize (sz_gf g v) = z_ssize g := rfl
theorem zz_rules_gf (g : GS) (v : (Nat → Int32)) : z_rules (sz_gf g v) = z_rules g := rfl
theorem zz_rivers_gf (g : GS) (v : (Nat → Int32)) : z_rivers (sz_gf g v) = z_rivers g := rfl
theorem zz_orders_gf (g : GS) (v : (Nat → Int32)) : z_orders (sz_gf g v) = z_orders g := rfl
theorem zz_now_gf (g : GS) (v : (Nat → Int32)) : z_now (sz_gf g v) = z_now g := rfl
theorem zz_then_gf (g : GS) (v : (Nat → Int32)) : z_then (sz_gf g v) = z_then g := rfl
theorem zz_loss_gf (g : GS) (v : (Nat → Int32)) : z_loss (sz_gf g v) = z_loss g := rfl
theorem zz_stale_gf (g : GS) (v : (Nat → Int32)) : z_stale (sz_gf g v) = z_stale g := rfl
theorem zz_ga_gf (g : GS) (v : (Nat → Int32)) : z_ga (sz_gf g v) = z_ga g := rfl
theorem zz_free_gf (g : GS) (v : (Nat → Int32)) : z_free (sz_gf g v) = z_free g := rfl
theorem zz_rsize_gf (g : GS) (v : (Nat → Int32)) : z_rsize (sz_gf g v) = z_rsize g := rfl
theorem zz_fmin_gf (g : GS) (v : (Nat → Int32)) : z_fmin (sz_gf g v) = z_fmin g := rfl
theorem zz_fpass_gf (g : GS) (v : (Nat → Int32)) : z_fpass (sz_gf g v) = z_fpass g := rfl
theorem zz_inTurn_gf (g : GS) (v : (Nat → Int32)) : z_inTurn (sz_gf g v) = z_inTurn g := rfl
theorem zz_fsize_gf (g : GS) (v : (Nat → Int32)) : z_fsize (sz_gf g v) = z_fsize g := rfl
theorem zz_numbers_gf (g : GS) (v : (Nat → Int32)) : z_numbers (sz_gf g v) = z_numbers g := rfl
theorem zz_tlen_gf (g : GS) (v : (Nat → Int32)) : z_tlen (sz_gf g v) = z_tlen g := rfl
theorem zz_gk_gf (g : GS) (v : (Nat → Int32)) : z_gk (sz_gf g v) = z_gk g := rfl
theorem zz_gm_gf (g : GS) (v : (Nat → Int32)) : z_gm (sz_gf g v) = z_gm g := rfl
theorem zz_gh_gf (g : GS) (v : (Nat → Int32)) : z_gh (sz_gf g v) = z_gh g := rfl
theorem zz_gf_gf (g : GS) (v : (Nat → Int32)) : z_gf (sz_gf g v) = v := rfl
theorem zz_gn_gf (g : GS) (v : (Nat → Int32)) : z_gn (sz_gf g v) = z_gn g := rfl
theorem vSh_gf (g : GS) (v : (Nat → Int32)) : vSh (sz_gf g v) = vSh g := rfl
theorem vSea_gf (g : GS) (v : (Nat → Int32)) : vSea (sz_gf g v) = vSea g := rfl
theorem vGa_gf (g : GS) (v : (Nat → Int32)) : vGa (sz_gf g v) = (z_ga g, z_rsize g, z_gk g, z_gm g, z_gh g, v, z_gn g) := rfl
theorem vSp_gf (g : GS) (v : (Nat → Int32)) : vSp (sz_gf g v) = vSp g := rfl
theorem vTr_gf (g : GS) (v : (Nat → Int32)) : vTr (sz_gf g v) = vTr g := rfl
theorem zz_finding_gn (g : GS) (v : Nat) : z_finding (sz_gn g v) = z_finding g := rfl
theorem zz_items_gn (g : GS) (v : Nat) : z_items (sz_gn g v) = z_items g := rfl
theorem zz_lanes_gn (g : GS) (v : Nat) : z_lanes (sz_gn g v) = z_lanes g := rfl
theorem zz_sizes_gn (g : GS) (v : Nat) : z_sizes (sz_gn g v) = z_sizes g := rfl
theorem zz_weights_gn (g : GS) (v : Nat) : z_weights (sz_gn g v) = z_weights g := rfl
theorem zz_levels_gn (g : GS) (v : Nat) : z_levels (sz_gn g v) = z_levels g := rfl
theorem zz_heads_gn (g : GS) (v : Nat) : z_heads (sz_gn g v) = z_heads g := rfl
theorem zz_ssize_gn (g : GS) (v : Nat) : z_ssize (sz_gn g v) = z_ssize g := rfl
theorem zz_rules_gn (g : GS) (v : Nat) : z_rules (sz_gn g v) = z_rules g := rfl
theorem zz_rivers_gn (g : GS) (v : Nat) : z_rivers (sz_gn g v) = z_rivers g := rfl
theorem zz_orders_gn (g : GS) (v : Nat) : z_orders (sz_gn g v) = z_orders g := rfl
theorem zz_now_gn (g : GS) (v : Nat) : z_now (sz_gn g v) = z_now g := rfl
theorem zz_then_gn (g : GS) (v : Nat) : z_then (sz_gn g v) = z_then g := rfl
theorem zz_loss_gn (g : GS) (v : Nat) : z_loss (sz_gn g v) = z_loss g := rfl
theorem zz_stale_gn (g : GS) (v : Nat) : z_stale (sz_gn g v) = z_stale g := rfl
theorem zz_ga_gn (g : GS) (v : Nat) : z_ga (sz_gn g v) = z_ga g := rfl
theorem zz_free_gn (g : GS) (v : Nat) : z_free (sz_gn g v) = z_free g := rfl
theorem zz_rsize_gn (g : GS) (v : Nat) : z_rsize (sz_gn g v) = z_rsize g := rfl
theorem zz_fmin_gn (g : GS) (v : Nat) : z_fmin (sz_gn g v) = z_fmin g := rfl
theorem zz_fpass_gn (g : GS) (v : Nat) : z_fpass (sz_gn g v) = z_fpass g := rfl
theorem zz_inTurn_gn (g : GS) (v : Nat) : z_inTurn (sz_gn g v) = z_inTurn g := rfl
theorem zz_fsize_gn (g : GS) (v : Nat) : z_fsize (sz_gn g v) = z_fsize g := rfl
theorem zz_numbers_gn (g : GS) (v : Nat) : z_numbers (sz_gn g v) = z_numbers g := rfl
theorem zz_tlen_gn (g : GS) (v : Nat) : z_tlen (sz_gn g v) = z_tlen g := rfl
theorem zz_gk_gn (g : GS) (v : Nat) : z_gk (sz_gn g v) = z_gk g := rfl
theorem zz_gm_gn (g : GS) (v : Nat) : z_gm (sz_gn g v) = z_gm g := rfl
theorem zz_gh_gn (g : GS) (v : Nat) : z_gh (sz_gn g v) = z_gh g := rfl
theorem zz_gf_gn (g : GS) (v : Nat) : z_gf (sz_gn g v) = z_gf g := rfl
theorem zz_gn_gn (g : GS) (v : Nat) : z_gn (sz_gn g v) = v := rfl
theorem vSh_gn (g : GS) (v : Nat) : vSh (sz_gn g v) = vSh g := rfl
theorem vSea_gn (g : GS) (v : Nat) : vSea (sz_gn g v) = vSea g := rfl
theorem vGa_gn (g : GS) (v : Nat) : vGa (sz_gn g v) = (z_ga g, z_rsize g, z_gk g, z_gm g, z_gh g, z_gf g, v) := rfl
theorem vSp_gn (g : GS) (v : Nat) : vSp (sz_gn g v) = vSp g := rfl
theorem vTr_gn (g : GS) (v : Nat) : vTr (sz_gn g v) = vTr g := rfl
theorem mm_thrown_thrown (g : GM) (v : Int32) : m_thrown (sm_thrown g v) = v := rfl
theorem mm_status_thrown (g : GM) (v : Int32) : m_status (sm_thrown g v) = m_status g := rfl
theorem mm_rule_thrown (g : GM) (v : Int32) : m_rule (sm_thrown g v) = m_rule g := rfl
theorem mm_river_thrown (g : GM) (v : Int32) : m_river (sm_thrown g v) = m_river g := rfl
theorem mm_lane_thrown (g : GM) (v : Int32) : m_lane (sm_thrown g v) = m_lane g := rfl
theorem mm_many_thrown (g : GM) (v : Int32) : m_many (sm_thrown g v) = m_many g := rfl
theorem mm_item_thrown (g : GM) (v : Int32) : m_item (sm_thrown g v) = m_item g := rfl
theorem mm_worlds_thrown (g : GM) (v : Int32) : m_worlds (sm_thrown g v) = m_worlds g := rfl
theorem mm_weight_thrown (g : GM) (v : Int32) : m_weight (sm_thrown g v) = m_weight g := rfl
theorem mm_sea_thrown (g : GM) (v : Int32) : m_sea (sm_thrown g v) = m_sea g := rfl
theorem mm_least_thrown (g : GM) (v : Int32) : m_least (sm_thrown g v) = m_least g := rfl
theorem mm_isTold_thrown (g : GM) (v : Int32) : m_isTold (sm_thrown g v) = m_isTold g := rfl
theorem mm_gates_thrown (g : GM) (v : Int32) : m_gates (sm_thrown g v) = m_gates g := rfl
theorem mm_minutes_thrown (g : GM) (v : Int32) : m_minutes (sm_thrown g v) = m_minutes g := rfl
theorem mm_hand_thrown (g : GM) (v : Int32) : m_hand (sm_thrown g v) = m_hand g := rfl
theorem mm_hasFailed_thrown (g : GM) (v : Int32) : m_hasFailed (sm_thrown g v) = m_hasFailed g := rfl
theorem mm_crew_thrown (g : GM) (v : Int32) : m_crew (sm_thrown g v) = m_crew g := rfl
theorem mm_ships_thrown (g : GM) (v : Int32) : m_ships (sm_thrown g v) = m_ships g := rfl
theorem mm_comes_thrown (g : GM) (v : Int32) : m_comes (sm_thrown g v) = m_comes g := rfl
theorem mm_takes_thrown (g : GM) (v : Int32) : m_takes (sm_thrown g v) = m_takes g := rfl
theorem mm_trace_thrown (g : GM) (v : Int32) : m_trace (sm_thrown g v) = m_trace g := rfl
theorem mm_traced_thrown (g : GM) (v : Int32) : m_traced (sm_thrown g v) = m_traced g := rfl
theorem uSh_thrown (g : GM) (v : Int32) : uSh (sm_thrown g v) = uSh g := rfl
theorem uSea_thrown (g : GM) (v : Int32) : uSea (sm_thrown g v) = uSea g := rfl
theorem uGa_thrown (g : GM) (v : Int32) : uGa (sm_thrown g v) = uGa g := rfl
theorem uSp_thrown (g : GM) (v : Int32) : uSp (sm_thrown g v) = uSp g := rfl
theorem uTr_thrown (g : GM) (v : Int32) : uTr (sm_thrown g v) = uTr g := rfl
theorem mm_thrown_status (g : GM) (v : Int32) : m_thrown (sm_status g v) = m_thrown g := rfl
theorem mm_status_status (g : GM) (v : Int32) : m_status (sm_status g v) = v := rfl
theorem mm_rule_status (g : GM) (v : Int32) : m_rule (sm_status g v) = m_rule g := rfl
theorem mm_river_status (g : GM) (v : Int32) : m_river (sm_status g v) = m_river g := rfl
theorem mm_lane_status (g : GM) (v : Int32) : m_lane (sm_status g v) = m_lane g := rfl
theorem mm_many_status (g : GM) (v : Int32) : m_many (sm_status g v) = m_many g := rfl
theorem mm_item_status (g : GM) (v : Int32) : m_item (sm_status g v) = m_item g := rfl
theorem mm_worlds_status (g : GM) (v : Int32) : m_worlds (sm_status g v) = m_worlds g := rfl
theorem mm_weight_status (g : GM) (v : Int32) : m_weight (sm_status g v) = m_weight g := rfl
theorem mm_sea_status (g : GM) (v : Int32) : m_sea (sm_status g v) = m_sea g := rfl
theorem mm_least_status (g : GM) (v : Int32) : m_least (sm_status g v) = m_least g := rfl
theorem mm_isTold_status (g : GM) (v : Int32) : m_isTold (sm_status g v) = m_isTold g := rfl
theorem mm_gates_status (g : GM) (v : Int32) : m_gates (sm_status g v) = m_gates g := rfl
theorem mm_minutes_status (g : GM) (v : Int32) : m_minutes (sm_status g v) = m_minutes g := rfl
theorem mm_hand_status (g : GM) (v : Int32) : m_hand (sm_status g v) = m_hand g := rfl
theorem mm_hasFailed_status (g : GM) (v : Int32) : m_hasFailed (sm_status g v) = m_hasFailed g := rfl
theorem mm_crew_status (g : GM) (v : Int32) : m_crew (sm_status g v) = m_crew g := rfl
theorem mm_ships_status (g : GM) (v : Int32) : m_ships (sm_status g v) = m_ships g := rfl
theorem mm_comes_status (g : GM) (v : Int32) : m_comes (sm_status g v) = m_comes g := rfl
theorem mm_takes_status (g : GM) (v : Int32) : m_takes (sm_status g v) = m_takes g := rfl
theorem mm_trace_status (g : GM) (v : Int32) : m_trace (sm_status g v) = m_trace g := rfl
theorem mm_traced_status (g : GM) (v : Int32) : m_traced (sm_status g v) = m_traced g := rfl
theorem uSh_status (g : GM) (v : Int32) : uSh (sm_status g v) = uSh g := rfl
theorem uSea_status (g : GM) (v : Int32) : uSea (sm_status g v) = uSea g := rfl
theorem uGa_status (g : GM) (v : Int32) : uGa (sm_status g v) = uGa g := rfl
theorem uSp_status (g : GM) (v : Int32) : uSp (sm_status g v) = uSp g := rfl
theorem uTr_status (g : GM) (v : Int32) : uTr (sm_status g v) = uTr g := rfl
theorem mm_thrown_rule (g : GM) (v : Nat → Int32) : m_thrown (sm_rule g v) = m_thrown g := rfl
theorem mm_status_rule (g : GM) (v : Nat → Int32) : m_status (sm_rule g v) = m_status g := rfl
theorem mm_rule_rule (g : GM) (v : Nat → Int32) : m_rule (sm_rule g v) = v := rfl
theorem mm_river_rule (g : GM) (v : Nat → Int32) : m_river (sm_rule g v) = m_river g := rfl
theorem mm_lane_rule (g : GM) (v : Nat → Int32) : m_lane (sm_rule g v) = m_lane g := rfl
theorem mm_many_rule (g : GM) (v : Nat → Int32) : m_many (sm_rule g v) = m_many g := rfl
theorem mm_item_rule (g : GM) (v : Nat → Int32) : m_item (sm_rule g v) = m_item g := rfl
theorem mm_worlds_rule (g : GM) (v : Nat → Int32) : m_worlds (sm_rule g v) = m_worlds g := rfl
theorem mm_weight_rule (g : GM) (v : Nat → Int32) : m_weight (sm_rule g v) = m_weight g := rfl
theorem mm_sea_rule (g : GM) (v : Nat → Int32) : m_sea (sm_rule g v) = m_sea g := rfl
theorem mm_least_rule (g : GM) (v : Nat → Int32) : m_least (sm_rule g v) = m_least g := rfl
theorem mm_isTold_rule (g : GM) (v : Nat → Int32) : m_isTold (sm_rule g v) = m_isTold g := rfl
theorem mm_gates_rule (g : GM) (v : Nat → Int32) : m_gates (sm_rule g v) = m_gates g := rfl
theorem mm_minutes_rule (g : GM) (v : Nat → Int32) : m_minutes (sm_rule g v) = m_minutes g := rfl
theorem mm_hand_rule (g : GM) (v : Nat → Int32) : m_hand (sm_rule g v) = m_hand g := rfl
theorem mm_hasFailed_rule (g : GM) (v : Nat → Int32) : m_hasFailed (sm_rule g v) = m_hasFailed g := rfl
theorem mm_crew_rule (g : GM) (v : Nat → Int32) : m_crew (sm_rule g v) = m_crew g := rfl
theorem mm_ships_rule (g : GM) (v : Nat → Int32) : m_ships (sm_rule g v) = m_ships g := rfl
theorem mm_comes_rule (g : GM) (v : Nat → Int32) : m_comes (sm_rule g v) = m_comes g := rfl
theorem mm_takes_rule (g : GM) (v : Nat → Int32) : m_takes (sm_rule g v) = m_takes g := rfl
theorem mm_trace_rule (g : GM) (v : Nat → Int32) : m_trace (sm_rule g v) = m_trace g := rfl
theorem mm_traced_rule (g : GM) (v : Nat → Int32) : m_traced (sm_rule g v) = m_traced g := rfl
theorem uSh_rule (g : GM) (v : Nat → Int32) : uSh (sm_rule g v) = uSh g := rfl
theorem uSea_rule (g : GM) (v : Nat → Int32) : uSea (sm_rule g v) = (m_worlds g, m_weight g, m_sea g, v, m_river g) := rfl
theorem uGa_rule (g : GM) (v : Nat → Int32) : uGa (sm_rule g v) = uGa g := rfl
theorem uSp_rule (g : GM) (v : Nat → Int32) : uSp (sm_rule g v) = uSp g := rfl
theorem uTr_rule (g : GM) (v : Nat → Int32) : uTr (sm_rule g v) = uTr g := rfl
theorem mm_thrown_river (g : GM) (v : Nat → Int32) : m_thrown (sm_river g v) = m_thrown g := rfl
theorem mm_status_river (g : GM) (v : Nat → Int32) : m_status (sm_river g v) = m_status g := rfl
theorem mm_rule_river (g : GM) (v : Nat → Int32) : m_rule (sm_river g v) = m_rule g := rfl
theorem mm_river_river (g : GM) (v : Nat → Int32) : m_river (sm_river g v) = v := rfl
theorem mm_lane_river (g : GM) (v : Nat → Int32) : m_lane (sm_river g v) = m_lane g := rfl
theorem mm_many_river (g : GM) (v : Nat → Int32) : m_many (sm_river g v) = m_many g := rfl
theorem mm_item_river (g : GM) (v : Nat → Int32) : m_item (sm_river g v) = m_item g := rfl
theorem mm_worlds_river (g : GM) (v : Nat → Int32) : m_worlds (sm_river g v) = m_worlds g := rfl
theorem mm_weight_river (g : GM) (v : Nat → Int32) : m_weight (sm_river g v) = m_weight g := rfl
theorem mm_sea_river (g : GM) (v : Nat → Int32) : m_sea (sm_river g v) = m_sea g := rfl
theorem mm_least_river (g : GM) (v : Nat → Int32) : m_least (sm_river g v) = m_least g := rfl
theorem mm_isTold_river (g : GM) (v : Nat → Int32) : m_isTold (sm_river g v) = m_isTold g := rfl
theorem mm_gates_river (g : GM) (v : Nat → Int32) : m_gates (sm_river g v) = m_gates g := rfl
theorem mm_minutes_river (g : GM) (v : Nat → Int32) : m_minutes (sm_river g v) = m_minutes g := rfl
theorem mm_hand_river (g : GM) (v : Nat → Int32) : m_hand (sm_river g v) = m_hand g := rfl
theorem mm_hasFailed_river (g : GM) (v : Nat → Int32) : m_hasFailed (sm_river g v) = m_hasFailed g := rfl
theorem mm_crew_river (g : GM) (v : Nat → Int32) : m_crew (sm_river g v) = m_crew g := rfl
theorem mm_ships_river (g : GM) (v : Nat → Int32) : m_ships (sm_river g v) = m_ships g := rfl
theorem mm_comes_river (g : GM) (v : Nat → Int32) : m_comes (sm_river g v) = m_comes g := rfl
theorem mm_takes_river (g : GM) (v : Nat → Int32) : m_takes (sm_river g v) = m_takes g := rfl
theorem mm_trace_river (g : GM) (v : Nat → Int32) : m_trace (sm_river g v) = m_trace g := rfl
theorem mm_traced_river (g : GM) (v : Nat → Int32) : m_traced (sm_river g v) = m_traced g := rfl
theorem uSh_river (g : GM) (v : Nat → Int32) : uSh (sm_river g v) = uSh g := rfl
theorem uSea_river (g : GM) (v : Nat → Int32) : uSea (sm_river g v) = (m_worlds g, m_weight g, m_sea g, m_rule g, v) := rfl
theorem uGa_river (g : GM) (v : Nat → Int32) : uGa (sm_river g v) = uGa g := rfl
theorem uSp_river (g : GM) (v : Nat → Int32) : uSp (sm_river g v) = uSp g := rfl
theorem uTr_river (g : GM) (v : Nat → Int32) : uTr (sm_river g v) = uTr g := rfl
theorem mm_thrown_lane (g : GM) (v : Nat → Int32) : m_thrown (sm_lane g v) = m_thrown g := rfl
theorem mm_status_lane (g : GM) (v : Nat → Int32) : m_status (sm_lane g v) = m_status g := rfl
theorem mm_rule_lane (g : GM) (v : Nat → Int32) : m_rule (sm_lane g v) = m_rule g := rfl
theorem mm_river_lane (g : GM) (v : Nat → Int32) : m_river (sm_lane g v) = m_river g := rfl
theorem mm_lane_lane (g : GM) (v : Nat → Int32) : m_lane (sm_lane g v) = v := rfl
theorem mm_many_lane (g : GM) (v : Nat → Int32) : m_many (sm_lane g v) = m_many g := rfl
theorem mm_item_lane (g : GM) (v : Nat → Int32) : m_item (sm_lane g v) = m_item g := rfl
theorem mm_worlds_lane (g : GM) (v : Nat → Int32) : m_worlds (sm_lane g v) = m_worlds g := rfl
theorem mm_weight_lane (g : GM) (v : Nat → Int32) : m_weight (sm_lane g v) = m_weight g := rfl
theorem mm_sea_lane (g : GM) (v : Nat → Int32) : m_sea (sm_lane g v) = m_sea g := rfl
theorem mm_least_lane (g : GM) (v : Nat → Int32) : m_least (sm_lane g v) = m_least g := rfl
theorem mm_isTold_lane (g : GM) (v : Nat → Int32) : m_isTold (sm_lane g v) = m_isTold g := rfl
theorem mm_gates_lane (g : GM) (v : Nat → Int32) : m_gates (sm_lane g v) = m_gates g := rfl
theorem mm_minutes_lane (g : GM) (v : Nat → Int32) : m_minutes (sm_lane g v) = m_minutes g := rfl
theorem mm_hand_lane (g : GM) (v : Nat → Int32) : m_hand (sm_lane g v) = m_hand g := rfl
theorem mm_hasFailed_lane (g : GM) (v : Nat → Int32) : m_hasFailed (sm_lane g v) = m_hasFailed g := rfl
theorem mm_crew_lane (g : GM) (v : Nat → Int32) : m_crew (sm_lane g v) = m_crew g := rfl
theorem mm_ships_lane (g : GM) (v : Nat → Int32) : m_ships (sm_lane g v) = m_ships g := rfl
theorem mm_comes_lane (g : GM) (v : Nat → Int32) : m_comes (sm_lane g v) = m_comes g := rfl
theorem mm_takes_lane (g : GM) (v : Nat → Int32) : m_takes (sm_lane g v) = m_takes g := rfl
theorem mm_trace_lane (g : GM) (v : Nat → Int32) : m_trace (sm_lane g v) = m_trace g := rfl
theorem mm_traced_lane (g : GM) (v : Nat → Int32) : m_traced (sm_lane g v) = m_traced g := rfl
theorem uSh_lane (g : GM) (v : Nat → Int32) : uSh (sm_lane g v) = (v, m_many g, m_item g) := rfl
theorem uSea_lane (g : GM) (v : Nat → Int32) : uSea (sm_lane g v) = uSea g := rfl
theorem uGa_lane (g : GM) (v : Nat → Int32) : uGa (sm_lane g v) = uGa g := rfl
theorem uSp_lane (g : GM) (v : Nat → Int32) : uSp (sm_lane g v) = uSp g := rfl
theorem uTr_lane (g : GM) (v : Nat → Int32) : uTr (sm_lane g v) = uTr g := rfl
theorem mm_thrown_many (g : GM) (v : Nat → Int32) : m_thrown (sm_many g v) = m_thrown g := rfl
theorem mm_status_many (g : GM) (v : Nat → Int32) : m_status (sm_many g v) = m_status g := rfl
theorem mm_rule_many (g : GM) (v : Nat → Int32) : m_rule (sm_many g v) = m_rule g := rfl
theorem mm_river_many (g : GM) (v : Nat → Int32) : m_river (sm_many g v) = m_river g := rfl
theorem mm_lane_many (g : GM) (v : Nat → Int32) : m_lane (sm_many g v) = m_lane g := rfl
theorem mm_many_many (g : GM) (v : Nat → Int32) : m_many (sm_many g v) = v := rfl
theorem mm_item_many (g : GM) (v : Nat → Int32) : m_item (sm_many g v) = m_item g := rfl
theorem mm_worlds_many (g : GM) (v : Nat → Int32) : m_worlds (sm_many g v) = m_worlds g := rfl
theorem mm_weight_many (g : GM) (v : Nat → Int32) : m_weight (sm_many g v) = m_weight g := rfl
theorem mm_sea_many (g : GM) (v : Nat → Int32) : m_sea (sm_many g v) = m_sea g := rfl
theorem mm_least_many (g : GM) (v : Nat → Int32) : m_least (sm_many g v) = m_least g := rfl
theorem mm_isTold_many (g : GM) (v : Nat → Int32) : m_isTold (sm_many g v) = m_isTold g := rfl
theorem mm_gates_many (g : GM) (v : Nat → Int32) : m_gates (sm_many g v) = m_gates g := rfl
theorem mm_minutes_many (g : GM) (v : Nat → Int32) : m_minutes (sm_many g v) = m_minutes g := rfl
theorem mm_hand_many (g : GM) (v : Nat → Int32) : m_hand (sm_many g v) = m_hand g := rfl
theorem mm_hasFailed_many (g : GM) (v : Nat → Int32) : m_hasFailed (sm_many g v) = m_hasFailed g := rfl
theorem mm_crew_many (g : GM) (v : Nat → Int32) : m_crew (sm_many g v) = m_crew g := rfl
theorem mm_ships_many (g : GM) (v : Nat → Int32) : m_ships (sm_many g v) = m_ships g := rfl
theorem mm_comes_many (g : GM) (v : Nat → Int32) : m_comes (sm_many g v) = m_comes g := rfl
theorem mm_takes_many (g : GM) (v : Nat → Int32) : m_takes (sm_many g v) = m_takes g := rfl
theorem mm_trace_many (g : GM) (v : Nat → Int32) : m_trace (sm_many g v) = m_trace g := rfl
theorem mm_traced_many (g : GM) (v : Nat → Int32) : m_traced (sm_many g v) = m_traced g := rfl
theorem uSh_many (g : GM) (v : Nat → Int32) : uSh (sm_many g v) = (m_lane g, v, m_item g) := rfl
theorem uSea_many (g : GM) (v : Nat → Int32) : uSea (sm_many g v) = uSea g := rfl
theorem uGa_many (g : GM) (v : Nat → Int32) : uGa (sm_many g v) = uGa g := rfl
theorem uSp_many (g : GM) (v : Nat → Int32) : uSp (sm_many g v) = uSp g := rfl
theorem uTr_many (g : GM) (v : Nat → Int32) : uTr (sm_many g v) = uTr g := rfl
theorem mm_thrown_item (g : GM) (v : Nat → Int32) : m_thrown (sm_item g v) = m_thrown g := rfl
theorem mm_status_item (g : GM) (v : Nat → Int32) : m_status (sm_item g v) = m_status g := rfl
theorem mm_rule_item (g : GM) (v : Nat → Int32) : m_rule (sm_item g v) = m_rule g := rfl
theorem mm_river_item (g : GM) (v : Nat → Int32) : m_river (sm_item g v) = m_river g := rfl
theorem mm_lane_item (g : GM) (v : Nat → Int32) : m_lane (sm_item g v) = m_lane g := rfl
theorem mm_many_item (g : GM) (v : Nat → Int32) : m_many (sm_item g v) = m_many g := rfl
theorem mm_item_item (g : GM) (v : Nat → Int32) : m_item (sm_item g v) = v := rfl
theorem mm_worlds_item (g : GM) (v : Nat → Int32) : m_worlds (sm_item g v) = m_worlds g := rfl
theorem mm_weight_item (g : GM) (v : Nat → Int32) : m_weight (sm_item g v) = m_weight g := rfl
theorem mm_sea_item (g : GM) (v : Nat → Int32) : m_sea (sm_item g v) = m_sea g := rfl
theorem mm_least_item (g : GM) (v : Nat → Int32) : m_least (sm_item g v) = m_least g := rfl
theorem mm_isTold_item (g : GM) (v : Nat → Int32) : m_isTold (sm_item g v) = m_isTold g := rfl
theorem mm_gates_item (g : GM) (v : Nat → Int32) : m_gates (sm_item g v) = m_gates g := rfl
theorem mm_minutes_item (g : GM) (v : Nat → Int32) : m_minutes (sm_item g v) = m_minutes g := rfl
theorem mm_hand_item (g : GM) (v : Nat → Int32) : m_hand (sm_item g v) = m_hand g := rfl
theorem mm_hasFailed_item (g : GM) (v : Nat → Int32) : m_hasFailed (sm_item g v) = m_hasFailed g := rfl
theorem mm_crew_item (g : GM) (v : Nat → Int32) : m_crew (sm_item g v) = m_crew g := rfl
theorem mm_ships_item (g : GM) (v : Nat → Int32) : m_ships (sm_item g v) = m_ships g := rfl
theorem mm_comes_item (g : GM) (v : Nat → Int32) : m_comes (sm_item g v) = m_comes g := rfl
theorem mm_takes_item (g : GM) (v : Nat → Int32) : m_takes (sm_item g v) = m_takes g := rfl
theorem mm_trace_item (g : GM) (v : Nat → Int32) : m_trace (sm_item g v) = m_trace g := rfl
theorem mm_traced_item (g : GM) (v : Nat → Int32) : m_traced (sm_item g v) = m_traced g := rfl
theorem uSh_item (g : GM) (v : Nat → Int32) : uSh (sm_item g v) = (m_lane g, m_many g, v) := rfl
theorem uSea_item (g : GM) (v : Nat → Int32) : uSea (sm_item g v) = uSea g := rfl
theorem uGa_item (g : GM) (v : Nat → Int32) : uGa (sm_item g v) = uGa g := rfl
theorem uSp_item (g : GM) (v : Nat → Int32) : uSp (sm_item g v) = uSp g := rfl
theorem uTr_item (g : GM) (v : Nat → Int32) : uTr (sm_item g v) = uTr g := rfl
theorem mm_thrown_worlds (g : GM) (v : Int32) : m_thrown (sm_worlds g v) = m_thrown g := rfl
theorem mm_status_worlds (g : GM) (v : Int32) : m_status (sm_worlds g v) = m_status g := rfl
theorem mm_rule_worlds (g : GM) (v : Int32) : m_rule (sm_worlds g v) = m_rule g := rfl
theorem mm_river_worlds (g : GM) (v : Int32) : m_river (sm_worlds g v) = m_river g := rfl
theorem mm_lane_worlds (g : GM) (v : Int32) : m_lane (sm_worlds g v) = m_lane g := rfl
theorem mm_many_worlds (g : GM) (v : Int32) : m_many (sm_worlds g v) = m_many g := rfl
theorem mm_item_worlds (g : GM) (v : Int32) : m_item (sm_worlds g v) = m_item g := rfl
theorem mm_worlds_worlds (g : GM) (v : Int32) : m_worlds (sm_worlds g v) = v := rfl
theorem mm_weight_worlds (g : GM) (v : Int32) : m_weight (sm_worlds g v) = m_weight g := rfl
theorem mm_sea_worlds (g : GM) (v : Int32) : m_sea (sm_worlds g v) = m_sea g := rfl
theorem mm_least_worlds (g : GM) (v : Int32) : m_least (sm_worlds g v) = m_least g := rfl
theorem mm_isTold_worlds (g : GM) (v : Int32) : m_isTold (sm_worlds g v) = m_isTold g := rfl
theorem mm_gates_worlds (g : GM) (v : Int32) : m_gates (sm_worlds g v) = m_gates g := rfl
theorem mm_minutes_worlds (g : GM) (v : Int32) : m_minutes (sm_worlds g v) = m_minutes g := rfl
theorem mm_hand_worlds (g : GM) (v : Int32) : m_hand (sm_worlds g v) = m_hand g := rfl
theorem mm_hasFailed_worlds (g : GM) (v : Int32) : m_hasFailed (sm_worlds g v) = m_hasFailed g := rfl
theorem mm_crew_worlds (g : GM) (v : Int32) : m_crew (sm_worlds g v) = m_crew g := rfl
theorem mm_ships_worlds (g : GM) (v : Int32) : m_ships (sm_worlds g v) = m_ships g := rfl
theorem mm_comes_worlds (g : GM) (v : Int32) : m_comes (sm_worlds g v) = m_comes g := rfl
theorem mm_takes_worlds (g : GM) (v : Int32) : m_takes (sm_worlds g v) = m_takes g := rfl
theorem mm_trace_worlds (g : GM) (v : Int32) : m_trace (sm_worlds g v) = m_trace g := rfl
theorem mm_traced_worlds (g : GM) (v : Int32) : m_traced (sm_worlds g v) = m_traced g := rfl
theorem uSh_worlds (g : GM) (v : Int32) : uSh (sm_worlds g v) = uSh g := rfl
theorem uSea_worlds (g : GM) (v : Int32) : uSea (sm_worlds g v) = (v, m_weight g, m_sea g, m_rule g, m_river g) := rfl
theorem uGa_worlds (g : GM) (v : Int32) : uGa (sm_worlds g v) = uGa g := rfl
theorem uSp_worlds (g : GM) (v : Int32) : uSp (sm_worlds g v) = uSp g := rfl
theorem uTr_worlds (g : GM) (v : Int32) : uTr (sm_worlds g v) = uTr g := rfl
theorem mm_thrown_weight (g : GM) (v : Nat → Int32) : m_thrown (sm_weight g v) = m_thrown g := rfl
theorem mm_status_weight (g : GM) (v : Nat → Int32) : m_status (sm_weight g v) = m_status g := rfl
theorem mm_rule_weight (g : GM) (v : Nat → Int32) : m_rule (sm_weight g v) = m_rule g := rfl
theorem mm_river_weight (g : GM) (v : Nat → Int32) : m_river (sm_weight g v) = m_river g := rfl
theorem mm_lane_weight (g : GM) (v : Nat → Int32) : m_lane (sm_weight g v) = m_lane g := rfl
theorem mm_many_weight (g : GM) (v : Nat → Int32) : m_many (sm_weight g v) = m_many g := rfl
theorem mm_item_weight (g : GM) (v : Nat → Int32) : m_item (sm_weight g v) = m_item g := rfl
theorem mm_worlds_weight (g : GM) (v : Nat → Int32) : m_worlds (sm_weight g v) = m_worlds g := rfl
theorem mm_weight_weight (g : GM) (v : Nat → Int32) : m_weight (sm_weight g v) = v := rfl
theorem mm_sea_weight (g : GM) (v : Nat → Int32) : m_sea (sm_weight g v) = m_sea g := rfl
theorem mm_least_weight (g : GM) (v : Nat → Int32) : m_least (sm_weight g v) = m_least g := rfl
theorem mm_isTold_weight (g : GM) (v : Nat → Int32) : m_isTold (sm_weight g v) = m_isTold g := rfl
theorem mm_gates_weight (g : GM) (v : Nat → Int32) : m_gates (sm_weight g v) = m_gates g := rfl
theorem mm_minutes_weight (g : GM) (v : Nat → Int32) : m_minutes (sm_weight g v) = m_minutes g := rfl
theorem mm_hand_weight (g : GM) (v : Nat → Int32) : m_hand (sm_weight g v) = m_hand g := rfl
theorem mm_hasFailed_weight (g : GM) (v : Nat → Int32) : m_hasFailed (sm_weight g v) = m_hasFailed g := rfl
theorem mm_crew_weight (g : GM) (v : Nat → Int32) : m_crew (sm_weight g v) = m_crew g := rfl
theorem mm_ships_weight (g : GM) (v : Nat → Int32) : m_ships (sm_weight g v) = m_ships g := rfl
theorem mm_comes_weight (g : GM) (v : Nat → Int32) : m_comes (sm_weight g v) = m_comes g := rfl
theorem mm_takes_weight (g : GM) (v : Nat → Int32) : m_takes (sm_weight g v) = m_takes g := rfl
theorem mm_trace_weight (g : GM) (v : Nat → Int32) : m_trace (sm_weight g v) = m_trace g := rfl
theorem mm_traced_weight (g : GM) (v : Nat → Int32) : m_traced (sm_weight g v) = m_traced g := rfl
theorem uSh_weight (g : GM) (v : Nat → Int32) : uSh (sm_weight g v) = uSh g := rfl
theorem uSea_weight (g : GM) (v : Nat → Int32) : uSea (sm_weight g v) = (m_worlds g, v, m_sea g, m_rule g, m_river g) := rfl
theorem uGa_weight (g : GM) (v : Nat → Int32) : uGa (sm_weight g v) = uGa g := rfl
theorem uSp_weight (g : GM) (v : Nat → Int32) : uSp (sm_weight g v) = uSp g := rfl
theorem uTr_weight (g : GM) (v : Nat → Int32) : uTr (sm_weight g v) = uTr g := rfl
theorem mm_thrown_sea (g : GM) (v : Nat → Int32) : m_thrown (sm_sea g v) = m_thrown g := rfl
theorem mm_status_sea (g : GM) (v : Nat → Int32) : m_status (sm_sea g v) = m_status g := rfl
theorem mm_rule_sea (g : GM) (v : Nat → Int32) : m_rule (sm_sea g v) = m_rule g := rfl
theorem mm_river_sea (g : GM) (v : Nat → Int32) : m_river (sm_sea g v) = m_river g := rfl
theorem mm_lane_sea (g : GM) (v : Nat → Int32) : m_lane (sm_sea g v) = m_lane g := rfl
theorem mm_many_sea (g : GM) (v : Nat → Int32) : m_many (sm_sea g v) = m_many g := rfl
theorem mm_item_sea (g : GM) (v : Nat → Int32) : m_item (sm_sea g v) = m_item g := rfl
theorem mm_worlds_sea (g : GM) (v : Nat → Int32) : m_worlds (sm_sea g v) = m_worlds g := rfl
theorem mm_weight_sea (g : GM) (v : Nat → Int32) : m_weight (sm_sea g v) = m_weight g := rfl
theorem mm_sea_sea (g : GM) (v : Nat → Int32) : m_sea (sm_sea g v) = v := rfl
theorem mm_least_sea (g : GM) (v : Nat → Int32) : m_least (sm_sea g v) = m_least g := rfl
theorem mm_isTold_sea (g : GM) (v : Nat → Int32) : m_isTold (sm_sea g v) = m_isTold g := rfl
theorem mm_gates_sea (g : GM) (v : Nat → Int32) : m_gates (sm_sea g v) = m_gates g := rfl
theorem mm_minutes_sea (g : GM) (v : Nat → Int32) : m_minutes (sm_sea g v) = m_minutes g := rfl
theorem mm_hand_sea (g : GM) (v : Nat → Int32) : m_hand (sm_sea g v) = m_hand g := rfl
theorem mm_hasFailed_sea (g : GM) (v : Nat → Int32) : m_hasFailed (sm_sea g v) = m_hasFailed g := rfl
theorem mm_crew_sea (g : GM) (v : Nat → Int32) : m_crew (sm_sea g v) = m_crew g := rfl
theorem mm_ships_sea (g : GM) (v : Nat → Int32) : m_ships (sm_sea g v) = m_ships g := rfl
theorem mm_comes_sea (g : GM) (v : Nat → Int32) : m_comes (sm_sea g v) = m_comes g := rfl
theorem mm_takes_sea (g : GM) (v : Nat → Int32) : m_takes (sm_sea g v) = m_takes g := rfl
theorem mm_trace_sea (g : GM) (v : Nat → Int32) : m_trace (sm_sea g v) = m_trace g := rfl
theorem mm_traced_sea (g : GM) (v : Nat → Int32) : m_traced (sm_sea g v) = m_traced g := rfl
theorem uSh_sea (g : GM) (v : Nat → Int32) : uSh (sm_sea g v) = uSh g := rfl
theorem uSea_sea (g : GM) (v : Nat → Int32) : uSea (sm_sea g v) = (m_worlds g, m_weight g, v, m_rule g, m_river g) := rfl
theorem uGa_sea (g : GM) (v : Nat → Int32) : uGa (sm_sea g v) = uGa g := rfl
theorem uSp_sea (g : GM) (v : Nat → Int32) : uSp (sm_sea g v) = uSp g := rfl
theorem uTr_sea (g : GM) (v : Nat → Int32) : uTr (sm_sea g v) = uTr g := rfl
theorem mm_thrown_least (g : GM) (v : Nat → Int64) : m_thrown (sm_least g v) = m_thrown g := rfl
theorem mm_status_least (g : GM) (v : Nat → Int64) : m_status (sm_least g v) = m_status g := rfl
theorem mm_rule_least (g : GM) (v : Nat → Int64) : m_rule (sm_least g v) = m_rule g := rfl
theorem mm_river_least (g : GM) (v : Nat → Int64) : m_river (sm_least g v) = m_river g := rfl
theorem mm_lane_least (g : GM) (v : Nat → Int64) : m_lane (sm_least g v) = m_lane g := rfl
theorem mm_many_least (g : GM) (v : Nat → Int64) : m_many (sm_least g v) = m_many g := rfl
theorem mm_item_least (g : GM) (v : Nat → Int64) : m_item (sm_least g v) = m_item g := rfl
theorem mm_worlds_least (g : GM) (v : Nat → Int64) : m_worlds (sm_least g v) = m_worlds g := rfl
theorem mm_weight_least (g : GM) (v : Nat → Int64) : m_weight (sm_least g v) = m_weight g := rfl
theorem mm_sea_least (g : GM) (v : Nat → Int64) : m_sea (sm_least g v) = m_sea g := rfl
theorem mm_least_least (g : GM) (v : Nat → Int64) : m_least (sm_least g v) = v := rfl
theorem mm_isTold_least (g : GM) (v : Nat → Int64) : m_isTold (sm_least g v) = m_isTold g := rfl
theorem mm_gates_least (g : GM) (v : Nat → Int64) : m_gates (sm_least g v) = m_gates g := rfl
theorem mm_minutes_least (g : GM) (v : Nat → Int64) : m_minutes (sm_least g v) = m_minutes g := rfl
theorem mm_hand_least (g : GM) (v : Nat → Int64) : m_hand (sm_least g v) = m_hand g := rfl
theorem mm_hasFailed_least (g : GM) (v : Nat → Int64) : m_hasFailed (sm_least g v) = m_hasFailed g := rfl
theorem mm_crew_least (g : GM) (v : Nat → Int64) : m_crew (sm_least g v) = m_crew g := rfl
theorem mm_ships_least (g : GM) (v : Nat → Int64) : m_ships (sm_least g v) = m_ships g := rfl
theorem mm_comes_least (g : GM) (v : Nat → Int64) : m_comes (sm_least g v) = m_comes g := rfl
theorem mm_takes_least (g : GM) (v : Nat → Int64) : m_takes (sm_least g v) = m_takes g := rfl
theorem mm_trace_least (g : GM) (v : Nat → Int64) : m_trace (sm_least g v) = m_trace g := rfl
theorem mm_traced_least (g : GM) (v : Nat → Int64) : m_traced (sm_least g v) = m_traced g := rfl
theorem uSh_least (g : GM) (v : Nat → Int64) : uSh (sm_least g v) = uSh g := rfl
theorem uSea_least (g : GM) (v : Nat → Int64) : uSea (sm_least g v) = uSea g := rfl
theorem uGa_least (g : GM) (v : Nat → Int64) : uGa (sm_least g v) = uGa g := rfl
theorem uSp_least (g : GM) (v : Nat → Int64) : uSp (sm_least g v) = uSp g := rfl
theorem uTr_least (g : GM) (v : Nat → Int64) : uTr (sm_least g v) = uTr g := rfl
theorem mm_thrown_isTold (g : GM) (v : Nat → Int32) : m_thrown (sm_isTold g v) = m_thrown g := rfl
theorem mm_status_isTold (g : GM) (v : Nat → Int32) : m_status (sm_isTold g v) = m_status g := rfl
theorem mm_rule_isTold (g : GM) (v : Nat → Int32) : m_rule (sm_isTold g v) = m_rule g := rfl
theorem mm_river_isTold (g : GM) (v : Nat → Int32) : m_river (sm_isTold g v) = m_river g := rfl
theorem mm_lane_isTold (g : GM) (v : Nat → Int32) : m_lane (sm_isTold g v) = m_lane g := rfl
theorem mm_many_isTold (g : GM) (v : Nat → Int32) : m_many (sm_isTold g v) = m_many g := rfl
theorem mm_item_isTold (g : GM) (v : Nat → Int32) : m_item (sm_isTold g v) = m_item g := rfl
theorem mm_worlds_isTold (g : GM) (v : Nat → Int32) : m_worlds (sm_isTold g v) = m_worlds g := rfl
theorem mm_weight_isTold (g : GM) (v : Nat → Int32) : m_weight (sm_isTold g v) = m_weight g := rfl
theorem mm_sea_isTold (g : GM) (v : Nat → Int32) : m_sea (sm_isTold g v) = m_sea g := rfl
theorem mm_least_isTold (g : GM) (v : Nat → Int32) : m_least (sm_isTold g v) = m_least g := rfl
theorem mm_isTold_isTold (g : GM) (v : Nat → Int32) : m_isTold (sm_isTold g v) = v := rfl
theorem mm_gates_isTold (g : GM) (v : Nat → Int32) : m_gates (sm_isTold g v) = m_gates g := rfl
theorem mm_minutes_isTold (g : GM) (v : Nat → Int32) : m_minutes (sm_isTold g v) = m_minutes g := rfl
theorem mm_hand_isTold (g : GM) (v : Nat → Int32) : m_hand (sm_isTold g v) = m_hand g := rfl
theorem mm_hasFailed_isTold (g : GM) (v : Nat → Int32) : m_hasFailed (sm_isTold g v) = m_hasFailed g := rfl
theorem mm_crew_isTold (g : GM) (v : Nat → Int32) : m_crew (sm_isTold g v) = m_crew g := rfl
theorem mm_ships_isTold (g : GM) (v : Nat → Int32) : m_ships (sm_isTold g v) = m_ships g := rfl
theorem mm_comes_isTold (g : GM) (v : Nat → Int32) : m_comes (sm_isTold g v) = m_comes g := rfl
theorem mm_takes_isTold (g : GM) (v : Nat → Int32) : m_takes (sm_isTold g v) = m_takes g := rfl
theorem mm_trace_isTold (g : GM) (v : Nat → Int32) : m_trace (sm_isTold g v) = m_trace g := rfl
theorem mm_traced_isTold (g : GM) (v : Nat → Int32) : m_traced (sm_isTold g v) = m_traced g := rfl
theorem uSh_isTold (g : GM) (v : Nat → Int32) : uSh (sm_isTold g v) = uSh g := rfl
theorem uSea_isTold (g : GM) (v : Nat → Int32) : uSea (sm_isTold g v) = uSea g := rfl
theorem uGa_isTold (g : GM) (v : Nat → Int32) : uGa (sm_isTold g v) = uGa g := rfl
theorem uSp_isTold (g : GM) (v : Nat → Int32) : uSp (sm_isTold g v) = uSp g := rfl
theorem uTr_isTold (g : GM) (v : Nat → Int32) : uTr (sm_isTold g v) = uTr g := rfl
theorem mm_thrown_gates (g : GM) (v : Int32) : m_thrown (sm_gates g v) = m_thrown g := rfl
theorem mm_status_gates (g : GM) (v : Int32) : m_status (sm_gates g v) = m_status g := rfl
theorem mm_rule_gates (g : GM) (v : Int32) : m_rule (sm_gates g v) = m_rule g := rfl
theorem mm_river_gates (g : GM) (v : Int32) : m_river (sm_gates g v) = m_river g := rfl
theorem mm_lane_gates (g : GM) (v : Int32) : m_lane (sm_gates g v) = m_lane g := rfl
theorem mm_many_gates (g : GM) (v : Int32) : m_many (sm_gates g v) = m_many g := rfl
theorem mm_item_gates (g : GM) (v : Int32) : m_item (sm_gates g v) = m_item g := rfl
theorem mm_worlds_gates (g : GM) (v : Int32) : m_worlds (sm_gates g v) = m_worlds g := rfl
theorem mm_weight_gates (g : GM) (v : Int32) : m_weight (sm_gates g v) = m_weight g := rfl
theorem mm_sea_gates (g : GM) (v : Int32) : m_sea (sm_gates g v) = m_sea g := rfl
theorem mm_least_gates (g : GM) (v : Int32) : m_least (sm_gates g v) = m_least g := rfl
theorem mm_isTold_gates (g : GM) (v : Int32) : m_isTold (sm_gates g v) = m_isTold g := rfl
theorem mm_gates_gates (g : GM) (v : Int32) : m_gates (sm_gates g v) = v := rfl
theorem mm_minutes_gates (g : GM) (v : Int32) : m_minutes (sm_gates g v) = m_minutes g := rfl
theorem mm_hand_gates (g : GM) (v : Int32) : m_hand (sm_gates g v) = m_hand g := rfl
theorem mm_hasFailed_gates (g : GM) (v : Int32) : m_hasFailed (sm_gates g v) = m_hasFailed g := rfl
theorem mm_crew_gates (g : GM) (v : Int32) : m_crew (sm_gates g v) = m_crew g := rfl
theorem mm_ships_gates (g : GM) (v : Int32) : m_ships (sm_gates g v) = m_ships g := rfl
theorem mm_comes_gates (g : GM) (v : Int32) : m_comes (sm_gates g v) = m_comes g := rfl
theorem mm_takes_gates (g : GM) (v : Int32) : m_takes (sm_gates g v) = m_takes g := rfl
theorem mm_trace_gates (g : GM) (v : Int32) : m_trace (sm_gates g v) = m_trace g := rfl
theorem mm_traced_gates (g : GM) (v : Int32) : m_traced (sm_gates g v) = m_traced g := rfl
theorem uSh_gates (g : GM) (v : Int32) : uSh (sm_gates g v) = uSh g := rfl
theorem uSea_gates (g : GM) (v : Int32) : uSea (sm_gates g v) = uSea g := rfl
theorem uGa_gates (g : GM) (v : Int32) : uGa (sm_gates g v) = (v, m_minutes g, m_hand g, m_hasFailed g) := rfl
theorem uSp_gates (g : GM) (v : Int32) : uSp (sm_gates g v) = uSp g := rfl
theorem uTr_gates (g : GM) (v : Int32) : uTr (sm_gates g v) = uTr g := rfl
theorem mm_thrown_minutes (g : GM) (v : Nat → Int32) : m_thrown (sm_minutes g v) = m_thrown g := rfl
theorem mm_status_minutes (g : GM) (v : Nat → Int32) : m_status (sm_minutes g v) = m_status g := rfl
theorem mm_rule_minutes (g : GM) (v : Nat → Int32) : m_rule (sm_minutes g v) = m_rule g := rfl
theorem mm_river_minutes (g : GM) (v : Nat → Int32) : m_river (sm_minutes g v) = m_river g := rfl
theorem mm_lane_minutes (g : GM) (v : Nat → Int32) : m_lane (sm_minutes g v) = m_lane g := rfl
theorem mm_many_minutes (g : GM) (v : Nat → Int32) : m_many (sm_minutes g v) = m_many g := rfl
theorem mm_item_minutes (g : GM) (v : Nat → Int32) : m_item (sm_minutes g v) = m_item g := rfl
theorem mm_worlds_minutes (g : GM) (v : Nat → Int32) : m_worlds (sm_minutes g v) = m_worlds g := rfl
theorem mm_weight_minutes (g : GM) (v : Nat → Int32) : m_weight (sm_minutes g v) = m_weight g := rfl
theorem mm_sea_minutes (g : GM) (v : Nat → Int32) : m_sea (sm_minutes g v) = m_sea g := rfl
theorem mm_least_minutes (g : GM) (v : Nat → Int32) : m_least (sm_minutes g v) = m_least g := rfl
theorem mm_isTold_minutes (g : GM) (v : Nat → Int32) : m_isTold (sm_minutes g v) = m_isTold g := rfl
theorem mm_gates_minutes (g : GM) (v : Nat → Int32) : m_gates (sm_minutes g v) = m_gates g := rfl
theorem mm_minutes_minutes (g : GM) (v : Nat → Int32) : m_minutes (sm_minutes g v) = v := rfl
theorem mm_hand_minutes (g : GM) (v : Nat → Int32) : m_hand (sm_minutes g v) = m_hand g := rfl
theorem mm_hasFailed_minutes (g : GM) (v : Nat → Int32) : m_hasFailed (sm_minutes g v) = m_hasFailed g := rfl
theorem mm_crew_minutes (g : GM) (v : Nat → Int32) : m_crew (sm_minutes g v) = m_crew g := rfl
theorem mm_ships_minutes (g : GM) (v : Nat → Int32) : m_ships (sm_minutes g v) = m_ships g := rfl
theorem mm_comes_minutes (g : GM) (v : Nat → Int32) : m_comes (sm_minutes g v) = m_comes g := rfl
theorem mm_takes_minutes (g : GM) (v : Nat → Int32) : m_takes (sm_minutes g v) = m_takes g := rfl
theorem mm_trace_minutes (g : GM) (v : Nat → Int32) : m_trace (sm_minutes g v) = m_trace g := rfl
theorem mm_traced_minutes (g : GM) (v : Nat → Int32) : m_traced (sm_minutes g v) = m_traced g := rfl
theorem uSh_minutes (g : GM) (v : Nat → Int32) : uSh (sm_minutes g v) = uSh g := rfl
theorem uSea_minutes (g : GM) (v : Nat → Int32) : uSea (sm_minutes g v) = uSea g := rfl
theorem uGa_minutes (g : GM) (v : Nat → Int32) : uGa (sm_minutes g v) = (m_gates g, v, m_hand g, m_hasFailed g) := rfl
theorem uSp_minutes (g : GM) (v : Nat → Int32) : uSp (sm_minutes g v) = uSp g := rfl
theorem uTr_minutes (g : GM) (v : Nat → Int32) : uTr (sm_minutes g v) = uTr g := rfl
theorem mm_thrown_hand (g : GM) (v : Nat → Int32) : m_thrown (sm_hand g v) = m_thrown g := rfl
theorem mm_status_hand (g : GM) (v : Nat → Int32) : m_status (sm_hand g v) = m_status g := rfl
theorem mm_rule_hand (g : GM) (v : Nat → Int32) : m_rule (sm_hand g v) = m_rule g := rfl
theorem mm_river_hand (g : GM) (v : Nat → Int32) : m_river (sm_hand g v) = m_river g := rfl
theorem mm_lane_hand (g : GM) (v : Nat → Int32) : m_lane (sm_hand g v) = m_lane g := rfl
theorem mm_many_hand (g : GM) (v : Nat → Int32) : m_many (sm_hand g v) = m_many g := rfl
theorem mm_item_hand (g : GM) (v : Nat → Int32) : m_item (sm_hand g v) = m_item g := rfl
theorem mm_worlds_hand (g : GM) (v : Nat → Int32) : m_worlds (sm_hand g v) = m_worlds g := rfl
theorem mm_weight_hand (g : GM) (v : Nat → Int32) : m_weight (sm_hand g v) = m_weight g := rfl
theorem mm_sea_hand (g : GM) (v : Nat → Int32) : m_sea (sm_hand g v) = m_sea g := rfl
theorem mm_least_hand (g : GM) (v : Nat → Int32) : m_least (sm_hand g v) = m_least g := rfl
theorem mm_isTold_hand (g : GM) (v : Nat → Int32) : m_isTold (sm_hand g v) = m_isTold g := rfl
theorem mm_gates_hand (g : GM) (v : Nat → Int32) : m_gates (sm_hand g v) = m_gates g := rfl
theorem mm_minutes_hand (g : GM) (v : Nat → Int32) : m_minutes (sm_hand g v) = m_minutes g := rfl
theorem mm_hand_hand (g : GM) (v : Nat → Int32) : m_hand (sm_hand g v) = v := rfl
theorem mm_hasFailed_hand (g : GM) (v : Nat → Int32) : m_hasFailed (sm_hand g v) = m_hasFailed g := rfl
theorem mm_crew_hand (g : GM) (v : Nat → Int32) : m_crew (sm_hand g v) = m_crew g := rfl
theorem mm_ships_hand (g : GM) (v : Nat → Int32) : m_ships (sm_hand g v) = m_ships g := rfl
theorem mm_comes_hand (g : GM) (v : Nat → Int32) : m_comes (sm_hand g v) = m_comes g := rfl
theorem mm_takes_hand (g : GM) (v : Nat → Int32) : m_takes (sm_hand g v) = m_takes g := rfl
theorem mm_trace_hand (g : GM) (v : Nat → Int32) : m_trace (sm_hand g v) = m_trace g := rfl
theorem mm_traced_hand (g : GM) (v : Nat → Int32) : m_traced (sm_hand g v) = m_traced g := rfl
theorem uSh_hand (g : GM) (v : Nat → Int32) : uSh (sm_hand g v) = uSh g := rfl
theorem uSea_hand (g : GM) (v : Nat → Int32) : uSea (sm_hand g v) = uSea g := rfl
theorem uGa_hand (g : GM) (v : Nat → Int32) : uGa (sm_hand g v) = (m_gates g, m_minutes g, v, m_hasFailed g) := rfl
theorem uSp_hand (g : GM) (v : Nat → Int32) : uSp (sm_hand g v) = uSp g := rfl
theorem uTr_hand (g : GM) (v : Nat → Int32) : uTr (sm_hand g v) = uTr g := rfl
theorem mm_thrown_hasFailed (g : GM) (v : Nat → Int32) : m_thrown (sm_hasFailed g v) = m_thrown g := rfl
theorem mm_status_hasFailed (g : GM) (v : Nat → Int32) : m_status (sm_hasFailed g v) = m_status g := rfl
theorem mm_rule_hasFailed (g : GM) (v : Nat → Int32) : m_rule (sm_hasFailed g v) = m_rule g := rfl
theorem mm_river_hasFailed (g : GM) (v : Nat → Int32) : m_river (sm_hasFailed g v) = m_river g := rfl
theorem mm_lane_hasFailed (g : GM) (v : Nat → Int32) : m_lane (sm_hasFailed g v) = m_lane g := rfl
theorem mm_many_hasFailed (g : GM) (v : Nat → Int32) : m_many (sm_hasFailed g v) = m_many g := rfl
theorem mm_item_hasFailed (g : GM) (v : Nat → Int32) : m_item (sm_hasFailed g v) = m_item g := rfl
theorem mm_worlds_hasFailed (g : GM) (v : Nat → Int32) : m_worlds (sm_hasFailed g v) = m_worlds g := rfl
theorem mm_weight_hasFailed (g : GM) (v : Nat → Int32) : m_weight (sm_hasFailed g v) = m_weight g := rfl
theorem mm_sea_hasFailed (g : GM) (v : Nat → Int32) : m_sea (sm_hasFailed g v) = m_sea g := rfl
theorem mm_least_hasFailed (g : GM) (v : Nat → Int32) : m_least (sm_hasFailed g v) = m_least g := rfl
theorem mm_isTold_hasFailed (g : GM) (v : Nat → Int32) : m_isTold (sm_hasFailed g v) = m_isTold g := rfl
theorem mm_gates_hasFailed (g : GM) (v : Nat → Int32) : m_gates (sm_hasFailed g v) = m_gates g := rfl
theorem mm_minutes_hasFailed (g : GM) (v : Nat → Int32) : m_minutes (sm_hasFailed g v) = m_minutes g := rfl
theorem mm_hand_hasFailed (g : GM) (v : Nat → Int32) : m_hand (sm_hasFailed g v) = m_hand g := rfl
theorem mm_hasFailed_hasFailed (g : GM) (v : Nat → Int32) : m_hasFailed (sm_hasFailed g v) = v := rfl
theorem mm_crew_hasFailed (g : GM) (v : Nat → Int32) : m_crew (sm_hasFailed g v) = m_crew g := rfl
theorem mm_ships_hasFailed (g : GM) (v : Nat → Int32) : m_ships (sm_hasFailed g v) = m_ships g := rfl
theorem mm_comes_hasFailed (g : GM) (v : Nat → Int32) : m_comes (sm_hasFailed g v) = m_comes g := rfl
theorem mm_takes_hasFailed (g : GM) (v : Nat → Int32) : m_takes (sm_hasFailed g v) = m_takes g := rfl
theorem mm_trace_hasFailed (g : GM) (v : Nat → Int32) : m_trace (sm_hasFailed g v) = m_trace g := rfl
theorem mm_traced_hasFailed (g : GM) (v : Nat → Int32) : m_traced (sm_hasFailed g v) = m_traced g := rfl
theorem uSh_hasFailed (g : GM) (v : Nat → Int32) : uSh (sm_hasFailed g v) = uSh g := rfl
theorem uSea_hasFailed (g : GM) (v : Nat → Int32) : uSea (sm_hasFailed g v) = uSea g := rfl
theorem uGa_hasFailed (g : GM) (v : Nat → Int32) : uGa (sm_hasFailed g v) = (m_gates g, m_minutes g, m_hand g, v) := rfl
theorem uSp_hasFailed (g : GM) (v : Nat → Int32) : uSp (sm_hasFailed g v) = uSp g := rfl
theorem uTr_hasFailed (g : GM) (v : Nat → Int32) : uTr (sm_hasFailed g v) = uTr g := rfl
theorem mm_thrown_crew (g : GM) (v : Nat → Int32) : m_thrown (sm_crew g v) = m_thrown g := rfl
theorem mm_status_crew (g : GM) (v : Nat → Int32) : m_status (sm_crew g v) = m_status g := rfl
theorem mm_rule_crew (g : GM) (v : Nat → Int32) : m_rule (sm_crew g v) = m_rule g := rfl
theorem mm_river_crew (g : GM) (v : Nat → Int32) : m_river (sm_crew g v) = m_river g := rfl
theorem mm_lane_crew (g : GM) (v : Nat → Int32) : m_lane (sm_crew g v) = m_lane g := rfl
theorem mm_many_crew (g : GM) (v : Nat → Int32) : m_many (sm_crew g v) = m_many g := rfl
theorem mm_item_crew (g : GM) (v : Nat → Int32) : m_item (sm_crew g v) = m_item g := rfl
theorem mm_worlds_crew (g : GM) (v : Nat → Int32) : m_worlds (sm_crew g v) = m_worlds g := rfl
theorem mm_weight_crew (g : GM) (v : Nat → Int32) : m_weight (sm_crew g v) = m_weight g := rfl
theorem mm_sea_crew (g : GM) (v : Nat → Int32) : m_sea (sm_crew g v) = m_sea g := rfl
theorem mm_least_crew (g : GM) (v : Nat → Int32) : m_least (sm_crew g v) = m_least g := rfl
theorem mm_isTold_crew (g : GM) (v : Nat → Int32) : m_isTold (sm_crew g v) = m_isTold g := rfl
theorem mm_gates_crew (g : GM) (v : Nat → Int32) : m_gates (sm_crew g v) = m_gates g := rfl
theorem mm_minutes_crew (g : GM) (v : Nat → Int32) : m_minutes (sm_crew g v) = m_minutes g := rfl
theorem mm_hand_crew (g : GM) (v : Nat → Int32) : m_hand (sm_crew g v) = m_hand g := rfl
theorem mm_hasFailed_crew (g : GM) (v : Nat → Int32) : m_hasFailed (sm_crew g v) = m_hasFailed g := rfl
theorem mm_crew_crew (g : GM) (v : Nat → Int32) : m_crew (sm_crew g v) = v := rfl
theorem mm_ships_crew (g : GM) (v : Nat → Int32) : m_ships (sm_crew g v) = m_ships g := rfl
theorem mm_comes_crew (g : GM) (v : Nat → Int32) : m_comes (sm_crew g v) = m_comes g := rfl
theorem mm_takes_crew (g : GM) (v : Nat → Int32) : m_takes (sm_crew g v) = m_takes g := rfl
theorem mm_trace_crew (g : GM) (v : Nat → Int32) : m_trace (sm_crew g v) = m_trace g := rfl
theorem mm_traced_crew (g : GM) (v : Nat → Int32) : m_traced (sm_crew g v) = m_traced g := rfl
theorem uSh_crew (g : GM) (v : Nat → Int32) : uSh (sm_crew g v) = uSh g := rfl
theorem uSea_crew (g : GM) (v : Nat → Int32) : uSea (sm_crew g v) = uSea g := rfl
theorem uGa_crew (g : GM) (v : Nat → Int32) : uGa (sm_crew g v) = uGa g := rfl
theorem uSp_crew (g : GM) (v : Nat → Int32) : uSp (sm_crew g v) = uSp g := rfl
theorem uTr_crew (g : GM) (v : Nat → Int32) : uTr (sm_crew g v) = uTr g := rfl
theorem mm_thrown_ships (g : GM) (v : Int32) : m_thrown (sm_ships g v) = m_thrown g := rfl
theorem mm_status_ships (g : GM) (v : Int32) : m_status (sm_ships g v) = m_status g := rfl
theorem mm_rule_ships (g : GM) (v : Int32) : m_rule (sm_ships g v) = m_rule g := rfl
theorem mm_river_ships (g : GM) (v : Int32) : m_river (sm_ships g v) = m_river g := rfl
theorem mm_lane_ships (g : GM) (v : Int32) : m_lane (sm_ships g v) = m_lane g := rfl
theorem mm_many_ships (g : GM) (v : Int32) : m_many (sm_ships g v) = m_many g := rfl
theorem mm_item_ships (g : GM) (v : Int32) : m_item (sm_ships g v) = m_item g := rfl
theorem mm_worlds_ships (g : GM) (v : Int32) : m_worlds (sm_ships g v) = m_worlds g := rfl
theorem mm_weight_ships (g : GM) (v : Int32) : m_weight (sm_ships g v) = m_weight g := rfl
theorem mm_sea_ships (g : GM) (v : Int32) : m_sea (sm_ships g v) = m_sea g := rfl
theorem mm_least_ships (g : GM) (v : Int32) : m_least (sm_ships g v) = m_least g := rfl
theorem mm_isTold_ships (g : GM) (v : Int32) : m_isTold (sm_ships g v) = m_isTold g := rfl
theorem mm_gates_ships (g : GM) (v : Int32) : m_gates (sm_ships g v) = m_gates g := rfl
theorem mm_minutes_ships (g : GM) (v : Int32) : m_minutes (sm_ships g v) = m_minutes g := rfl
theorem mm_hand_ships (g : GM) (v : Int32) : m_hand (sm_ships g v) = m_hand g := rfl
theorem mm_hasFailed_ships (g : GM) (v : Int32) : m_hasFailed (sm_ships g v) = m_hasFailed g := rfl
theorem mm_crew_ships (g : GM) (v : Int32) : m_crew (sm_ships g v) = m_crew g := rfl
theorem mm_ships_ships (g : GM) (v : Int32) : m_ships (sm_ships g v) = v := rfl
theorem mm_comes_ships (g : GM) (v : Int32) : m_comes (sm_ships g v) = m_comes g := rfl
theorem mm_takes_ships (g : GM) (v : Int32) : m_takes (sm_ships g v) = m_takes g := rfl
theorem mm_trace_ships (g : GM) (v : Int32) : m_trace (sm_ships g v) = m_trace g := rfl
theorem mm_traced_ships (g : GM) (v : Int32) : m_traced (sm_ships g v) = m_traced g := rfl
theorem uSh_ships (g : GM) (v : Int32) : uSh (sm_ships g v) = uSh g := rfl
theorem uSea_ships (g : GM) (v : Int32) : uSea (sm_ships g v) = uSea g := rfl
theorem uGa_ships (g : GM) (v : Int32) : uGa (sm_ships g v) = uGa g := rfl
theorem uSp_ships (g : GM) (v : Int32) : uSp (sm_ships g v) = (v, m_comes g, m_takes g) := rfl
theorem uTr_ships (g : GM) (v : Int32) : uTr (sm_ships g v) = uTr g := rfl
theorem mm_thrown_comes (g : GM) (v : Nat → Int32) : m_thrown (sm_comes g v) = m_thrown g := rfl
theorem mm_status_comes (g : GM) (v : Nat → Int32) : m_status (sm_comes g v) = m_status g := rfl
theorem mm_rule_comes (g : GM) (v : Nat → Int32) : m_rule (sm_comes g v) = m_rule g := rfl
theorem mm_river_comes (g : GM) (v : Nat → Int32) : m_river (sm_comes g v) = m_river g := rfl
theorem mm_lane_comes (g : GM) (v : Nat → Int32) : m_lane (sm_comes g v) = m_lane g := rfl
theorem mm_many_comes (g : GM) (v : Nat → Int32) : m_many (sm_comes g v) = m_many g := rfl
theorem mm_item_comes (g : GM) (v : Nat → Int32) : m_item (sm_comes g v) = m_item g := rfl
theorem mm_worlds_comes (g : GM) (v : Nat → Int32) : m_worlds (sm_comes g v) = m_worlds g := rfl
theorem mm_weight_comes (g : GM) (v : Nat → Int32) : m_weight (sm_comes g v) = m_weight g := rfl
theorem mm_sea_comes (g : GM) (v : Nat → Int32) : m_sea (sm_comes g v) = m_sea g := rfl
theorem mm_least_comes (g : GM) (v : Nat → Int32) : m_least (sm_comes g v) = m_least g := rfl
theorem mm_isTold_comes (g : GM) (v : Nat → Int32) : m_isTold (sm_comes g v) = m_isTold g := rfl
theorem mm_gates_comes (g : GM) (v : Nat → Int32) : m_gates (sm_comes g v) = m_gates g := rfl
theorem mm_minutes_comes (g : GM) (v : Nat → Int32) : m_minutes (sm_comes g v) = m_minutes g := rfl
theorem mm_hand_comes (g : GM) (v : Nat → Int32) : m_hand (sm_comes g v) = m_hand g := rfl
theorem mm_hasFailed_comes (g : GM) (v : Nat → Int32) : m_hasFailed (sm_comes g v) = m_hasFailed g := rfl
theorem mm_crew_comes (g : GM) (v : Nat → Int32) : m_crew (sm_comes g v) = m_crew g := rfl
theorem mm_ships_comes (g : GM) (v : Nat → Int32) : m_ships (sm_comes g v) = m_ships g := rfl
theorem mm_comes_comes (g : GM) (v : Nat → Int32) : m_comes (sm_comes g v) = v := rfl
theorem mm_takes_comes (g : GM) (v : Nat → Int32) : m_takes (sm_comes g v) = m_takes g := rfl
theorem mm_trace_comes (g : GM) (v : Nat → Int32) : m_trace (sm_comes g v) = m_trace g := rfl
theorem mm_traced_comes (g : GM) (v : Nat → Int32) : m_traced (sm_comes g v) = m_traced g := rfl
theorem uSh_comes (g : GM) (v : Nat → Int32) : uSh (sm_comes g v) = uSh g := rfl
theorem uSea_comes (g : GM) (v : Nat → Int32) : uSea (sm_comes g v) = uSea g := rfl
theorem uGa_comes (g : GM) (v : Nat → Int32) : uGa (sm_comes g v) = uGa g := rfl
theorem uSp_comes (g : GM) (v : Nat → Int32) : uSp (sm_comes g v) = (m_ships g, v, m_takes g) := rfl
theorem uTr_comes (g : GM) (v : Nat → Int32) : uTr (sm_comes g v) = uTr g := rfl
theorem mm_thrown_takes (g : GM) (v : Nat → Int32) : m_thrown (sm_takes g v) = m_thrown g := rfl
theorem mm_status_takes (g : GM) (v : Nat → Int32) : m_status (sm_takes g v) = m_status g := rfl
theorem mm_rule_takes (g : GM) (v : Nat → Int32) : m_rule (sm_takes g v) = m_rule g := rfl
theorem mm_river_takes (g : GM) (v : Nat → Int32) : m_river (sm_takes g v) = m_river g := rfl
theorem mm_lane_takes (g : GM) (v : Nat → Int32) : m_lane (sm_takes g v) = m_lane g := rfl
theorem mm_many_takes (g : GM) (v : Nat → Int32) : m_many (sm_takes g v) = m_many g := rfl
theorem mm_item_takes (g : GM) (v : Nat → Int32) : m_item (sm_takes g v) = m_item g := rfl
theorem mm_worlds_takes (g : GM) (v : Nat → Int32) : m_worlds (sm_takes g v) = m_worlds g := rfl
theorem mm_weight_takes (g : GM) (v : Nat → Int32) : m_weight (sm_takes g v) = m_weight g := rfl
theorem mm_sea_takes (g : GM) (v : Nat → Int32) : m_sea (sm_takes g v) = m_sea g := rfl
theorem mm_least_takes (g : GM) (v : Nat → Int32) : m_least (sm_takes g v) = m_least g := rfl
theorem mm_isTold_takes (g : GM) (v : Nat → Int32) : m_isTold (sm_takes g v) = m_isTold g := rfl
theorem mm_gates_takes (g : GM) (v : Nat → Int32) : m_gates (sm_takes g v) = m_gates g := rfl
theorem mm_minutes_takes (g : GM) (v : Nat → Int32) : m_minutes (sm_takes g v) = m_minutes g := rfl
theorem mm_hand_takes (g : GM) (v : Nat → Int32) : m_hand (sm_takes g v) = m_hand g := rfl
theorem mm_hasFailed_takes (g : GM) (v : Nat → Int32) : m_hasFailed (sm_takes g v) = m_hasFailed g := rfl
theorem mm_crew_takes (g : GM) (v : Nat → Int32) : m_crew (sm_takes g v) = m_crew g := rfl
theorem mm_ships_takes (g : GM) (v : Nat → Int32) : m_ships (sm_takes g v) = m_ships g := rfl
theorem mm_comes_takes (g : GM) (v : Nat → Int32) : m_comes (sm_takes g v) = m_comes g := rfl
theorem mm_takes_takes (g : GM) (v : Nat → Int32) : m_takes (sm_takes g v) = v := rfl
theorem mm_trace_takes (g : GM) (v : Nat → Int32) : m_trace (sm_takes g v) = m_trace g := rfl
theorem mm_traced_takes (g : GM) (v : Nat → Int32) : m_traced (sm_takes g v) = m_traced g := rfl
theorem uSh_takes (g : GM) (v : Nat → Int32) : uSh (sm_takes g v) = uSh g := rfl
theorem uSea_takes (g : GM) (v : Nat → Int32) : uSea (sm_takes g v) = uSea g := rfl
theorem uGa_takes (g : GM) (v : Nat → Int32) : uGa (sm_takes g v) = uGa g := rfl
theorem uSp_takes (g : GM) (v : Nat → Int32) : uSp (sm_takes g v) = (m_ships g, m_comes g, v) := rfl
theorem uTr_takes (g : GM) (v : Nat → Int32) : uTr (sm_takes g v) = uTr g := rfl
theorem mm_thrown_trace (g : GM) (v : Nat → Int32) : m_thrown (sm_trace g v) = m_thrown g := rfl
theorem mm_status_trace (g : GM) (v : Nat → Int32) : m_status (sm_trace g v) = m_status g := rfl
theorem mm_rule_trace (g : GM) (v : Nat → Int32) : m_rule (sm_trace g v) = m_rule g := rfl
theorem mm_river_trace (g : GM) (v : Nat → Int32) : m_river (sm_trace g v) = m_river g := rfl
theorem mm_lane_trace (g : GM) (v : Nat → Int32) : m_lane (sm_trace g v) = m_lane g := rfl
theorem mm_many_trace (g : GM) (v : Nat → Int32) : m_many (sm_trace g v) = m_many g := rfl
theorem mm_item_trace (g : GM) (v : Nat → Int32) : m_item (sm_trace g v) = m_item g := rfl
theorem mm_worlds_trace (g : GM) (v : Nat → Int32) : m_worlds (sm_trace g v) = m_worlds g := rfl
theorem mm_weight_trace (g : GM) (v : Nat → Int32) : m_weight (sm_trace g v) = m_weight g := rfl
theorem mm_sea_trace (g : GM) (v : Nat → Int32) : m_sea (sm_trace g v) = m_sea g := rfl
theorem mm_least_trace (g : GM) (v : Nat → Int32) : m_least (sm_trace g v) = m_least g := rfl
theorem mm_isTold_trace (g : GM) (v : Nat → Int32) : m_isTold (sm_trace g v) = m_isTold g := rfl
theorem mm_gates_trace (g : GM) (v : Nat → Int32) : m_gates (sm_trace g v) = m_gates g := rfl
theorem mm_minutes_trace (g : GM) (v : Nat → Int32) : m_minutes (sm_trace g v) = m_minutes g := rfl
theorem mm_hand_trace (g : GM) (v : Nat → Int32) : m_hand (sm_trace g v) = m_hand g := rfl
theorem mm_hasFailed_trace (g : GM) (v : Nat → Int32) : m_hasFailed (sm_trace g v) = m_hasFailed g := rfl
theorem mm_crew_trace (g : GM) (v : Nat → Int32) : m_crew (sm_trace g v) = m_crew g := rfl
theorem mm_ships_trace (g : GM) (v : Nat → Int32) : m_ships (sm_trace g v) = m_ships g := rfl
theorem mm_comes_trace (g : GM) (v : Nat → Int32) : m_comes (sm_trace g v) = m_comes g := rfl
theorem mm_takes_trace (g : GM) (v : Nat → Int32) : m_takes (sm_trace g v) = m_takes g := rfl
theorem mm_trace_trace (g : GM) (v : Nat → Int32) : m_trace (sm_trace g v) = v := rfl
theorem mm_traced_trace (g : GM) (v : Nat → Int32) : m_traced (sm_trace g v) = m_traced g := rfl
theorem uSh_trace (g : GM) (v : Nat → Int32) : uSh (sm_trace g v) = uSh g := rfl
theorem uSea_trace (g : GM) (v : Nat → Int32) : uSea (sm_trace g v) = uSea g := rfl
theorem uGa_trace (g : GM) (v : Nat → Int32) : uGa (sm_trace g v) = uGa g := rfl
theorem uSp_trace (g : GM) (v : Nat → Int32) : uSp (sm_trace g v) = uSp g := rfl
theorem uTr_trace (g : GM) (v : Nat → Int32) : uTr (sm_trace g v) = (v, m_traced g) := rfl
theorem mm_thrown_traced (g : GM) (v : Int32) : m_thrown (sm_traced g v) = m_thrown g := rfl
theorem mm_status_traced (g : GM) (v : Int32) : m_status (sm_traced g v) = m_status g := rfl
theorem mm_rule_traced (g : GM) (v : Int32) : m_rule (sm_traced g v) = m_rule g := rfl
theorem mm_river_traced (g : GM) (v : Int32) : m_river (sm_traced g v) = m_river g := rfl
theorem mm_lane_traced (g : GM) (v : Int32) : m_lane (sm_traced g v) = m_lane g := rfl
theorem mm_many_traced (g : GM) (v : Int32) : m_many (sm_traced g v) = m_many g := rfl
theorem mm_item_traced (g : GM) (v : Int32) : m_item (sm_traced g v) = m_item g := rfl
theorem mm_worlds_traced (g : GM) (v : Int32) : m_worlds (sm_traced g v) = m_worlds g := rfl
theorem mm_weight_traced (g : GM) (v : Int32) : m_weight (sm_traced g v) = m_weight g := rfl
theorem mm_sea_traced (g : GM) (v : Int32) : m_sea (sm_traced g v) = m_sea g := rfl
theorem mm_least_traced (g : GM) (v : Int32) : m_least (sm_traced g v) = m_least g := rfl
theorem mm_isTold_traced (g : GM) (v : Int32) : m_isTold (sm_traced g v) = m_isTold g := rfl
theorem mm_gates_traced (g : GM) (v : Int32) : m_gates (sm_traced g v) = m_gates g := rfl
theorem mm_minutes_traced (g : GM) (v : Int32) : m_minutes (sm_traced g v) = m_minutes g := rfl
theorem mm_hand_traced (g : GM) (v : Int32) : m_hand (sm_traced g v) = m_hand g := rfl
theorem mm_hasFailed_traced (g : GM) (v : Int32) : m_hasFailed (sm_traced g v) = m_hasFailed g := rfl
theorem mm_crew_traced (g : GM) (v : Int32) : m_crew (sm_traced g v) = m_crew g := rfl
theorem mm_ships_traced (g : GM) (v : Int32) : m_ships (sm_traced g v) = m_ships g := rfl
theorem mm_comes_traced (g : GM) (v : Int32) : m_comes (sm_traced g v) = m_comes g := rfl
theorem mm_takes_traced (g : GM) (v : Int32) : m_takes (sm_traced g v) = m_takes g := rfl
theorem mm_trace_traced (g : GM) (v : Int32) : m_trace (sm_traced g v) = m_trace g := rfl
theorem mm_traced_traced (g : GM) (v : Int32) : m_traced (sm_traced g v) = v := rfl
theorem uSh_traced (g : GM) (v : Int32) : uSh (sm_traced g v) = uSh g := rfl
theorem uSea_traced (g : GM) (v : Int32) : uSea (sm_traced g v) = uSea g := rfl
theorem uGa_traced (g : GM) (v : Int32) : uGa (sm_traced g v) = uGa g := rfl
theorem uSp_traced (g : GM) (v : Int32) : uSp (sm_traced g v) = uSp g := rfl
theorem uTr_traced (g : GM) (v : Int32) : uTr (sm_traced g v) = (m_trace g, v) := rfl
theorem vSh_gnew (g : GS) (t : Nat) (a b : Int32) : vSh (gnew g t a b) = vSh g := rfl
theorem vSea_gnew (g : GS) (t : Nat) (a b : Int32) : vSea (gnew g t a b) = vSea g := rfl
theorem vGa_gnew (g : GS) (t : Nat) (a b : Int32) : vGa (gnew g t a b) = (z_ga g, z_rsize g, va_up (z_gk g) (z_gn g) t, upd (z_gm g) (z_gn g) a, upd (z_gh g) (z_gn g) b, upd (z_gf g) (z_gn g) 0, z_gn g + 1) := rfl
theorem vSp_gnew (g : GS) (t : Nat) (a b : Int32) : vSp (gnew g t a b) = vSp g := rfl
theorem vTr_gnew (g : GS) (t : Nat) (a b : Int32) : vTr (gnew g t a b) = vTr g := rfl
