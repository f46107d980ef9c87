/-! EVERY CALL keeps both alike -/
section WRAPS
variable {X : XT} {d : Nat} {h : HT} {σ : ST}
theorem w_man (C : CI h σ) (K : KI h σ) (O : OKs σ) (x w : Int32) : Pi X (d + 10) 81 [some (.ref 1), some (.int x), some (.int w), none] 224 [some (.ref 195), some (.int x), some (.int w)] h := by
  obtain ⟨τ, A, bh, ah, W, F, B, n, t, S, L, V, xx, yy⟩ := σ
  have C0 := C
  have K0 := K
  obtain ⟨⟨T, H, -⟩, -, -, C4, -, -⟩ := C
  obtain ⟨⟨b, f, KH⟩, -, -, K4, -, -⟩ := K
  exact Pi_of C0 K0 O (b_man H KH x w)
theorem w_craft (C : CI h σ) (K : KI h σ) (O : OKs σ) (x w : Int32) : Pi X (d + 10) 91 [some (.ref 1), some (.int x), some (.int w)] 236 [some (.ref 195), some (.int x), some (.int w)] h := by
  obtain ⟨τ, A, bh, ah, W, F, B, n, t, S, L, V, xx, yy⟩ := σ
  have C0 := C
  have K0 := K
  obtain ⟨⟨T, H, -⟩, -, -, C4, -, -⟩ := C
  obtain ⟨⟨b, f, KH⟩, -, -, K4, -, -⟩ := K
  exact Pi_of C0 K0 O (b_craft H KH x w)
theorem w_demand (C : CI h σ) (K : KI h σ) (O : OKs σ) (x w : Int32) : Pi X (d + 10) 93 [some (.ref 1), some (.int x), some (.int w), none] 238 [some (.ref 195), some (.int x), some (.int w)] h := by
  obtain ⟨τ, A, bh, ah, W, F, B, n, t, S, L, V, xx, yy⟩ := σ
  have C0 := C
  have K0 := K
  obtain ⟨⟨T, H, -⟩, -, -, C4, -, -⟩ := C
  obtain ⟨⟨b, f, KH⟩, -, -, K4, -, -⟩ := K
  exact Pi_of C0 K0 O (b_demand H KH x w)
theorem w_out (C : CI h σ) (K : KI h σ) (O : OKs σ) : Pi X (d + 10) 98 [some (.ref 1)] 243 [some (.ref 195)] h := by
  obtain ⟨τ, A, bh, ah, W, F, B, n, t, S, L, V, xx, yy⟩ := σ
  have C0 := C
  have K0 := K
  obtain ⟨⟨T, H, -⟩, -, -, C4, -, -⟩ := C
  obtain ⟨⟨b, f, KH⟩, -, -, K4, -, -⟩ := K
  exact Pi_of C0 K0 O (b_out H KH)
theorem w_loss (C : CI h σ) (K : KI h σ) (O : OKs σ) (w : Int32) : Pi X (d + 10) 99 [some (.ref 1), some (.int w)] 244 [some (.ref 195), some (.int w)] h := by
  obtain ⟨τ, A, bh, ah, W, F, B, n, t, S, L, V, xx, yy⟩ := σ
  have C0 := C
  have K0 := K
  obtain ⟨⟨T, H, -⟩, -, -, C4, -, -⟩ := C
  obtain ⟨⟨b, f, KH⟩, -, -, K4, -, -⟩ := K
  exact Pi_of C0 K0 O (b_loss H KH w)
theorem w_broken (C : CI h σ) (K : KI h σ) (O : OKs σ) : Pi X (d + 10) 100 [some (.ref 1), none, none] 245 [some (.ref 195), none, none] h := by
  obtain ⟨τ, A, bh, ah, W, F, B, n, t, S, L, V, xx, yy⟩ := σ
  have C0 := C
  have K0 := K
  obtain ⟨⟨T, H, -⟩, -, -, C4, -, -⟩ := C
  obtain ⟨⟨b, f, KH⟩, -, -, K4, -, -⟩ := K
  exact Pi_of C0 K0 O (b_broken H KH)
theorem w_longest (C : CI h σ) (K : KI h σ) (O : OKs σ) : Pi X (d + 10) 101 [some (.ref 1), none, none, none] 246 [some (.ref 195), none, none] h := by
  obtain ⟨τ, A, bh, ah, W, F, B, n, t, S, L, V, xx, yy⟩ := σ
  have C0 := C
  have K0 := K
  obtain ⟨⟨T, H, -⟩, -, -, C4, -, -⟩ := C
  obtain ⟨⟨b, f, KH⟩, -, -, K4, -, -⟩ := K
  exact Pi_of C0 K0 O (b_longest H KH (by decide))
theorem w_hands (C : CI h σ) (K : KI h σ) (O : OKs σ) (x y : Int32) : Pi X (d + 10) 102 [some (.ref 1), some (.int x), some (.int y)] 276 [some (.ref 195), some (.int x), some (.int y), none] h := by
  obtain ⟨τ, A, bh, ah, W, F, B, n, t, S, L, V, xx, yy⟩ := σ
  have C0 := C
  have K0 := K
  obtain ⟨⟨T, H, -⟩, -, -, C4, -, -⟩ := C
  obtain ⟨⟨b, f, KH⟩, -, -, K4, -, -⟩ := K
  exact Pi_of C0 K0 O (b_hands H KH x y)
theorem w_spread (C : CI h σ) (K : KI h σ) (O : OKs σ) (x : Int32) : Pi X (d + 10) 129 [some (.ref 1), some (.int x)] 266 [some (.ref 195), some (.int x)] h := by
  obtain ⟨τ, A, bh, ah, W, F, B, n, t, S, L, V, xx, yy⟩ := σ
  have C0 := C
  have K0 := K
  obtain ⟨⟨T, H, -⟩, -, -, C4, -, -⟩ := C
  obtain ⟨⟨b, f, KH⟩, -, -, K4, -, -⟩ := K
  exact Pi_of C0 K0 O (b_spread H KH x)
theorem w_spark (C : CI h σ) (K : KI h σ) (O : OKs σ) (w : Int32) : Pi X (d + 10) 132 [some (.ref 1), some (.int w), none, none] 269 [some (.ref 195), some (.int w), none, none] h := by
  obtain ⟨τ, A, bh, ah, W, F, B, n, t, S, L, V, xx, yy⟩ := σ
  have C0 := C
  have K0 := K
  obtain ⟨⟨T, H, -⟩, -, -, C4, -, -⟩ := C
  obtain ⟨⟨b, f, KH⟩, -, -, K4, -, -⟩ := K
  exact Pi_of C0 K0 O (b_spark H KH w)
theorem w_stop (C : CI h σ) (K : KI h σ) (O : OKs σ) (x w : Int32) : Pi X (d + 10) 137 [some (.ref 1), some (.int x), some (.int w), none, none, none] 270 [some (.ref 195), some (.int x), some (.int w), none, none] h := by
  obtain ⟨τ, A, bh, ah, W, F, B, n, t, S, L, V, xx, yy⟩ := σ
  have C0 := C
  have K0 := K
  obtain ⟨⟨T, H, -⟩, -, -, C4, -, -⟩ := C
  obtain ⟨⟨b, f, KH⟩, -, -, K4, -, -⟩ := K
  exact Pi_of C0 K0 O (b_stop H KH x w)
theorem w_pillars (C : CI h σ) (K : KI h σ) (O : OKs σ) : Pi X (d + 10) 138 [some (.ref 1), none, none, none, none] 247 [some (.ref 195), none, none] h := by
  obtain ⟨τ, A, bh, ah, W, F, B, n, t, S, L, V, xx, yy⟩ := σ
  have C0 := C
  have K0 := K
  obtain ⟨⟨T, H, -⟩, -, -, C4, -, -⟩ := C
  obtain ⟨⟨b, f, KH⟩, -, -, K4, -, -⟩ := K
  exact Pi_of C0 K0 O (b_pillars H KH)
theorem w_idle (C : CI h σ) (K : KI h σ) (O : OKs σ) : Pi X (d + 10) 139 [some (.ref 1), none, none, none, none, none] 248 [some (.ref 195), none, none] h := by
  obtain ⟨τ, A, bh, ah, W, F, B, n, t, S, L, V, xx, yy⟩ := σ
  have C0 := C
  have K0 := K
  obtain ⟨⟨T, H, -⟩, -, -, C4, -, -⟩ := C
  obtain ⟨⟨b, f, KH⟩, -, -, K4, -, -⟩ := K
  exact Pi_of C0 K0 O (b_idle H KH)
theorem w_dearest (C : CI h σ) (K : KI h σ) (O : OKs σ) : Pi X (d + 10) 140 [some (.ref 1), none, none, none, none, none] 249 [some (.ref 195), none, none] h := by
  obtain ⟨τ, A, bh, ah, W, F, B, n, t, S, L, V, xx, yy⟩ := σ
  have C0 := C
  have K0 := K
  obtain ⟨⟨T, H, -⟩, -, -, C4, -, -⟩ := C
  obtain ⟨⟨b, f, KH⟩, -, -, K4, -, -⟩ := K
  exact Pi_of C0 K0 O (b_dearest H KH)
theorem w_twins (C : CI h σ) (K : KI h σ) (O : OKs σ) : Pi X (d + 10) 141 [some (.ref 1), none, none, none] 250 [some (.ref 195), none, none, none, none] h := by
  obtain ⟨τ, A, bh, ah, W, F, B, n, t, S, L, V, xx, yy⟩ := σ
  have C0 := C
  have K0 := K
  obtain ⟨⟨T, H, -⟩, -, -, C4, -, -⟩ := C
  obtain ⟨⟨b, f, KH⟩, -, -, K4, -, -⟩ := K
  exact Pi_of C0 K0 O (b_twins H KH)
theorem w_press (C : CI h σ) (K : KI h σ) (O : OKs σ) (x w : Int32) : Pi X (d + 10) 142 [some (.ref 1), some (.int x), some (.int w), none, none, none] 288 [some (.ref 195), some (.int x), some (.int w), none, none, none, none] h := by
  obtain ⟨τ, A, bh, ah, W, F, B, n, t, S, L, V, xx, yy⟩ := σ
  have C0 := C
  have K0 := K
  obtain ⟨⟨T, H, -⟩, -, -, C4, -, -⟩ := C
  obtain ⟨⟨b, f, KH⟩, -, -, K4, -, -⟩ := K
  exact Pi_of C0 K0 O (b_press H KH x w)
theorem w_pays (C : CI h σ) (K : KI h σ) (O : OKs σ) (x : Int32) : Pi X (d + 10) 143 [some (.ref 1), some (.int x), none, none] 289 [some (.ref 195), some (.int x), none, none] h := by
  obtain ⟨τ, A, bh, ah, W, F, B, n, t, S, L, V, xx, yy⟩ := σ
  have C0 := C
  have K0 := K
  obtain ⟨⟨T, H, -⟩, -, -, C4, -, -⟩ := C
  obtain ⟨⟨b, f, KH⟩, -, -, K4, -, -⟩ := K
  exact Pi_of C0 K0 O (b_pays H KH x)
theorem w_weight (C : CI h σ) (K : KI h σ) (O : OKs σ) (x w : Int32) : Pi X (d + 10) 144 [some (.ref 1), some (.int x), some (.int w), none] 294 [some (.ref 195), some (.int x), some (.int w), none, none, none] h := by
  obtain ⟨τ, A, bh, ah, W, F, B, n, t, S, L, V, xx, yy⟩ := σ
  have C0 := C
  have K0 := K
  obtain ⟨⟨T, H, -⟩, -, -, C4, -, -⟩ := C
  obtain ⟨⟨b, f, KH⟩, -, -, K4, -, -⟩ := K
  exact Pi_of C0 K0 O (b_weight H KH x w)
theorem w_stock (C : CI h σ) (K : KI h σ) (O : OKs σ) : Pi X (d + 10) 148 [some (.ref 1), none, none, none] 251 [some (.ref 195), none, none] h := by
  obtain ⟨τ, A, bh, ah, W, F, B, n, t, S, L, V, xx, yy⟩ := σ
  have C0 := C
  have K0 := K
  obtain ⟨⟨T, H, -⟩, -, -, C4, -, -⟩ := C
  obtain ⟨⟨b, f, KH⟩, -, -, K4, -, -⟩ := K
  exact Pi_of C0 K0 O (b_stock H KH)
theorem w_hungry (C : CI h σ) (K : KI h σ) (O : OKs σ) (x : Int32) : Pi X (d + 10) 149 [some (.ref 1), some (.int x)] 277 [some (.ref 195), some (.int x), none, none] h := by
  obtain ⟨τ, A, bh, ah, W, F, B, n, t, S, L, V, xx, yy⟩ := σ
  have C0 := C
  have K0 := K
  obtain ⟨⟨T, H, -⟩, -, -, C4, -, -⟩ := C
  obtain ⟨⟨b, f, KH⟩, -, -, K4, -, -⟩ := K
  exact Pi_of C0 K0 O (b_hungry H KH x)
theorem w_feeds (C : CI h σ) (K : KI h σ) (O : OKs σ) (x y : Int32) : Pi X (d + 10) 151 [some (.ref 1), some (.int x), some (.int y), none] 284 [some (.ref 195), some (.int x), some (.int y), none, none, none] h := by
  obtain ⟨τ, A, bh, ah, W, F, B, n, t, S, L, V, xx, yy⟩ := σ
  have C0 := C
  have K0 := K
  obtain ⟨⟨T, H, -⟩, -, -, C4, -, -⟩ := C
  obtain ⟨⟨b, f, KH⟩, -, -, K4, -, -⟩ := K
  exact Pi_of C0 K0 O (b_feeds H KH x y)
theorem w_will (C : CI h σ) (K : KI h σ) (O : OKs σ) (x : Int32) : Pi X (d + 10) 154 [some (.ref 1), some (.int x)] 271 [some (.ref 195), some (.int x), none] h := by
  obtain ⟨τ, A, bh, ah, W, F, B, n, t, S, L, V, xx, yy⟩ := σ
  have C0 := C
  have K0 := K
  obtain ⟨⟨T, H, -⟩, -, -, C4, -, -⟩ := C
  obtain ⟨⟨b, f, KH⟩, -, -, K4, -, -⟩ := K
  exact Pi_of C0 K0 O (b_will H KH x)
theorem w_lasts (C : CI h σ) (K : KI h σ) (O : OKs σ) : Pi X (d + 10) 155 [some (.ref 1)] 278 [some (.ref 195), none, none] h := by
  obtain ⟨τ, A, bh, ah, W, F, B, n, t, S, L, V, xx, yy⟩ := σ
  have C0 := C
  have K0 := K
  obtain ⟨⟨T, H, -⟩, -, -, C4, -, -⟩ := C
  obtain ⟨⟨b, f, KH⟩, -, -, K4, -, -⟩ := K
  exact Pi_of C0 K0 O (b_lasts H KH)
theorem w_costs (C : CI h σ) (K : KI h σ) (O : OKs σ) (x : Int32) : Pi X (d + 10) 157 [some (.ref 1), some (.int x)] 279 [some (.ref 195), some (.int x)] h := by
  obtain ⟨τ, A, bh, ah, W, F, B, n, t, S, L, V, xx, yy⟩ := σ
  have C0 := C
  have K0 := K
  obtain ⟨⟨T, H, -⟩, -, -, C4, -, -⟩ := C
  obtain ⟨⟨b, f, KH⟩, -, -, K4, -, -⟩ := K
  exact Pi_of C0 K0 O (b_costs H KH x)
theorem w_ever (C : CI h σ) (K : KI h σ) (O : OKs σ) (x : Int32) : Pi X (d + 10) 159 [some (.ref 1), some (.int x), none, none] 287 [some (.ref 195), some (.int x), none, none] h := by
  obtain ⟨τ, A, bh, ah, W, F, B, n, t, S, L, V, xx, yy⟩ := σ
  have C0 := C
  have K0 := K
  obtain ⟨⟨T, H, -⟩, -, -, C4, -, -⟩ := C
  obtain ⟨⟨b, f, KH⟩, -, -, K4, -, -⟩ := K
  exact Pi_of C0 K0 O (b_ever H KH x)
theorem w_returns (C : CI h σ) (K : KI h σ) (O : OKs σ) (x : Int32) : Pi X (d + 10) 160 [some (.ref 1), some (.int x), none] 281 [some (.ref 195), some (.int x)] h := by
  obtain ⟨τ, A, bh, ah, W, F, B, n, t, S, L, V, xx, yy⟩ := σ
  have C0 := C
  have K0 := K
  obtain ⟨⟨T, H, -⟩, -, -, C4, -, -⟩ := C
  obtain ⟨⟨b, f, KH⟩, -, -, K4, -, -⟩ := K
  exact Pi_of C0 K0 O (b_returns H KH x)
theorem w_weakest (C : CI h σ) (K : KI h σ) (O : OKs σ) : Pi X (d + 10) 161 [some (.ref 1), none, none, none] 283 [some (.ref 195), none, none, none, none] h := by
  obtain ⟨τ, A, bh, ah, W, F, B, n, t, S, L, V, xx, yy⟩ := σ
  have C0 := C
  have K0 := K
  obtain ⟨⟨T, H, -⟩, -, -, C4, -, -⟩ := C
  obtain ⟨⟨b, f, KH⟩, -, -, K4, -, -⟩ := K
  exact Pi_of C0 K0 O (b_weakest H KH)
theorem w_plan (C : CI h σ) (K : KI h σ) (O : OKs σ) (x w : Int32) : Pi X (d + 10) 162 [some (.ref 1), some (.int x), some (.int w), none, none, none] 285 [some (.ref 195), some (.int x), some (.int w), none, none, none, none, none] h := by
  obtain ⟨τ, A, bh, ah, W, F, B, n, t, S, L, V, xx, yy⟩ := σ
  have C0 := C
  have K0 := K
  obtain ⟨⟨T, H, -⟩, -, -, C4, -, -⟩ := C
  obtain ⟨⟨b, f, KH⟩, -, -, K4, -, -⟩ := K
  exact Pi_of C0 K0 O (b_plan H KH x w)
theorem w_bribe (C : CI h σ) (K : KI h σ) (O : OKs σ) (x w : Int32) : Pi X (d + 10) 164 [some (.ref 1), some (.int x), some (.int w), none, none] 286 [some (.ref 195), some (.int x), some (.int w), none, none, none] h := by
  obtain ⟨τ, A, bh, ah, W, F, B, n, t, S, L, V, xx, yy⟩ := σ
  have C0 := C
  have K0 := K
  obtain ⟨⟨T, H, -⟩, -, -, C4, -, -⟩ := C
  obtain ⟨⟨b, f, KH⟩, -, -, K4, -, -⟩ := K
  exact Pi_of C0 K0 O (b_bribe H KH x w)
theorem w_offer (C : CI h σ) (K : KI h σ) (O : OKs σ) (x w : Int32) : Pi X (d + 10) 166 [some (.ref 1), some (.int x), some (.int w)] 290 [some (.ref 195), some (.int x), some (.int w)] h := by
  obtain ⟨τ, A, bh, ah, W, F, B, n, t, S, L, V, xx, yy⟩ := σ
  have C0 := C
  have K0 := K
  obtain ⟨⟨T, H, -⟩, -, -, C4, -, -⟩ := C
  obtain ⟨⟨b, f, KH⟩, -, -, K4, -, -⟩ := K
  exact Pi_of C0 K0 O (b_offer H KH x w)
theorem w_until (C : CI h σ) (K : KI h σ) (O : OKs σ) (x : Int32) : Pi X (d + 10) 169 [some (.ref 1), some (.int x), none] 293 [some (.ref 195), some (.int x), none] h := by
  obtain ⟨τ, A, bh, ah, W, F, B, n, t, S, L, V, xx, yy⟩ := σ
  have C0 := C
  have K0 := K
  obtain ⟨⟨T, H, -⟩, -, -, C4, -, -⟩ := C
  obtain ⟨⟨b, f, KH⟩, -, -, K4, -, -⟩ := K
  exact Pi_of C0 K0 O (b_until H KH x)
theorem w_odds (C : CI h σ) (K : KI h σ) (O : OKs σ) (x w : Int32) : Pi X (d + 10) 170 [some (.ref 1), some (.int x), some (.int w), none, none, none, none] 297 [some (.ref 195), some (.int x), some (.int w), none, none, none] h := by
  obtain ⟨τ, A, bh, ah, W, F, B, n, t, S, L, V, xx, yy⟩ := σ
  have C0 := C
  have K0 := K
  obtain ⟨⟨T, H, -⟩, -, -, C4, -, -⟩ := C
  obtain ⟨⟨b, f, KH⟩, -, -, K4, -, -⟩ := K
  exact Pi_of C0 K0 O (b_odds H KH x w)
theorem w_fits (C : CI h σ) (K : KI h σ) (O : OKs σ) (k : Int32) : Pi X (d + 10) 178 [some (.ref 1), some (.int k)] 304 [some (.ref 195), some (.int k)] h := by
  obtain ⟨τ, A, bh, ah, W, F, B, n, t, S, L, V, xx, yy⟩ := σ
  have C0 := C
  have K0 := K
  obtain ⟨⟨T, H, -⟩, -, -, C4, -, -⟩ := C
  obtain ⟨⟨b, f, KH⟩, -, -, K4, -, -⟩ := K
  exact Pi_of C0 K0 O (b_fits H KH C4 K4 O.2.2.2.1 O.2.2.2.2.2.1 (fun g s => (KI_same s K0).2.2.2.1) k)
theorem w_sure (C : CI h σ) (K : KI h σ) (O : OKs σ) (x k : Int32) : Pi X (d + 10) 182 [some (.ref 1), some (.int x), some (.int k)] 308 [some (.ref 195), some (.int x), some (.int k)] h := by
  obtain ⟨τ, A, bh, ah, W, F, B, n, t, S, L, V, xx, yy⟩ := σ
  have C0 := C
  have K0 := K
  obtain ⟨⟨T, H, -⟩, -, -, C4, -, -⟩ := C
  obtain ⟨⟨b, f, KH⟩, -, -, K4, -, -⟩ := K
  exact Pi_of C0 K0 O (b_sure H KH C4 O.2.2.2.1 O.2.2.2.2.2.1 (fun g s => (KI_same s K0).2.2.2.1) x k)
theorem w_ask (C : CI h σ) (K : KI h σ) (O : OKs σ) (w k : Int32) : Pi X (d + 10) 183 [some (.ref 1), some (.int w), some (.int k), none, none] 309 [some (.ref 195), some (.int w), some (.int k), none, none, none, none] h := by
  obtain ⟨τ, A, bh, ah, W, F, B, n, t, S, L, V, xx, yy⟩ := σ
  have C0 := C
  have K0 := K
  obtain ⟨⟨T, H, -⟩, -, -, C4, -, -⟩ := C
  obtain ⟨⟨b, f, KH⟩, -, -, K4, -, -⟩ := K
  exact Pi_of C0 K0 O (b_ask H KH C4 O.2.2.2.1 O.2.2.2.2.2.1 (fun g s => (KI_same s K0).2.2.2.1) w k)
end WRAPS
