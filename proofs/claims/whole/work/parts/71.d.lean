theorem k0_r_1 : bCr 1 0 0 0 [] (fun x n => (w32 (x + n))) := ⟨by decide, fun x dp ac σ h1 h2 h3 h4 h5 h6 => gr1  x dp ac σ h1 h2 h3 h4 h5 h6⟩

theorem k0_f_0_0 : bCf 0 0 0 1 1 [1] (fun x n => (w32 (x + n))) := ⟨by decide, fun x dp ac σ h1 h2 h3 h4 h5 h6 => gf0_0 k0_r_1 x dp ac σ h1 h2 h3 h4 h5 h6⟩

theorem k0_o_0 : bCo 0 0 2 1 [1] (fun x n => (w32 (x + n))) := ⟨by decide, fun x dp ac σ h1 h2 h3 h4 h5 h6 => gown k0_f_0_0 x dp ac σ h1 h2 h3 h4 h5 h6⟩

theorem k0_r_10 : bCr 10 0 3 1 [1] (fun x n => (w32 ((w32 (x + n)) * 2))) := ⟨by decide, fun x dp ac σ h1 h2 h3 h4 h5 h6 => gr10 k0_o_0 x dp ac σ h1 h2 h3 h4 h5 h6⟩

theorem k0_f_0_1 : bCf 0 1 0 4 2 [10, 1] (fun x n => (w32 ((w32 (x + n)) * 2))) := ⟨by decide, fun x dp ac σ h1 h2 h3 h4 h5 h6 => gf0_1 k0_r_10 x dp ac σ h1 h2 h3 h4 h5 h6⟩

theorem k0_o_1 : bCo 1 0 5 2 [10, 1] (fun x n => (w32 ((w32 (x + n)) * 2))) := ⟨by decide, fun x dp ac σ h1 h2 h3 h4 h5 h6 => gown k0_f_0_1 x dp ac σ h1 h2 h3 h4 h5 h6⟩

theorem k0_r_11 : bCr 11 0 0 0 [] (fun x n => (am_xor x n)) := ⟨by decide, fun x dp ac σ h1 h2 h3 h4 h5 h6 => gr11  x dp ac σ h1 h2 h3 h4 h5 h6⟩

theorem k0_f_0_2 : bCf 0 2 0 1 1 [11] (fun x n => (am_xor x n)) := ⟨by decide, fun x dp ac σ h1 h2 h3 h4 h5 h6 => gf0_2 k0_r_11 x dp ac σ h1 h2 h3 h4 h5 h6⟩

theorem k0_o_2 : bCo 2 0 2 1 [11] (fun x n => (am_xor x n)) := ⟨by decide, fun x dp ac σ h1 h2 h3 h4 h5 h6 => gown k0_f_0_2 x dp ac σ h1 h2 h3 h4 h5 h6⟩

theorem k0_r_2 : bCr 2 0 8 3 [10, 1, 11] (fun x n => (w32 ((w32 ((w32 (x + n)) * 2)) - (am_xor 1 n)))) := ⟨by decide, fun x dp ac σ h1 h2 h3 h4 h5 h6 => gr2 k0_o_1 k0_o_2 x dp ac σ h1 h2 h3 h4 h5 h6⟩

theorem k0_f_0_3 : bCf 0 3 0 9 4 [2, 10, 1, 11] (fun x n => (w32 ((w32 ((w32 (x + n)) * 2)) - (am_xor 1 n)))) := ⟨by decide, fun x dp ac σ h1 h2 h3 h4 h5 h6 => gf0_3 k0_r_2 x dp ac σ h1 h2 h3 h4 h5 h6⟩

theorem k0_o_3 : bCo 3 0 10 4 [2, 10, 1, 11] (fun x n => (w32 ((w32 ((w32 (x + n)) * 2)) - (am_xor 1 n)))) := ⟨by decide, fun x dp ac σ h1 h2 h3 h4 h5 h6 => gown k0_f_0_3 x dp ac σ h1 h2 h3 h4 h5 h6⟩

theorem k1_r_1 : bCr 1 1 0 0 [] (fun x n => (w32 (x + n))) := ⟨by decide, fun x dp ac σ h1 h2 h3 h4 h5 h6 => gr1  x dp ac σ h1 h2 h3 h4 h5 h6⟩

theorem k1_f_0_0 : bCf 0 0 1 1 1 [1] (fun x n => (w32 (x + n))) := ⟨by decide, fun x dp ac σ h1 h2 h3 h4 h5 h6 => gf0_0 k1_r_1 x dp ac σ h1 h2 h3 h4 h5 h6⟩

theorem k1_u_20_0 : bCu 20 0 1 2 1 [1] (fun x n => (w32 ((w32 (x + n)) + 3))) := ⟨by decide, fun x dp ac σ h1 h2 h3 h4 h5 h6 => gu20 k1_f_0_0 x dp ac σ h1 h2 h3 h4 h5 h6⟩

theorem k1_f_1_0 : bCf 1 0 1 3 2 [20, 1] (fun x n => (w32 ((w32 (x + n)) + 3))) := ⟨by decide, fun x dp ac σ h1 h2 h3 h4 h5 h6 => gf1_0 k1_u_20_0 x dp ac σ h1 h2 h3 h4 h5 h6⟩

theorem k1_o_0 : bCo 0 1 4 2 [20, 1] (fun x n => (w32 ((w32 (x + n)) + 3))) := ⟨by decide, fun x dp ac σ h1 h2 h3 h4 h5 h6 => gown k1_f_1_0 x dp ac σ h1 h2 h3 h4 h5 h6⟩

theorem k1_r_10 : bCr 10 1 5 2 [20, 1] (fun x n => (w32 ((w32 ((w32 (x + n)) + 3)) * 2))) := ⟨by decide, fun x dp ac σ h1 h2 h3 h4 h5 h6 => gr10 k1_o_0 x dp ac σ h1 h2 h3 h4 h5 h6⟩

theorem k1_f_1_1 : bCf 1 1 1 6 3 [10, 20, 1] (fun x n => (w32 ((w32 ((w32 (x + n)) + 3)) * 2))) := ⟨by decide, fun x dp ac σ h1 h2 h3 h4 h5 h6 => gf1_1 k1_r_10 x dp ac σ h1 h2 h3 h4 h5 h6⟩

theorem k1_o_1 : bCo 1 1 7 3 [10, 20, 1] (fun x n => (w32 ((w32 ((w32 (x + n)) + 3)) * 2))) := ⟨by decide, fun x dp ac σ h1 h2 h3 h4 h5 h6 => gown k1_f_1_1 x dp ac σ h1 h2 h3 h4 h5 h6⟩

theorem k1_r_11 : bCr 11 1 0 0 [] (fun x n => (am_xor x n)) := ⟨by decide, fun x dp ac σ h1 h2 h3 h4 h5 h6 => gr11  x dp ac σ h1 h2 h3 h4 h5 h6⟩

theorem k1_f_1_2 : bCf 1 2 1 1 1 [11] (fun x n => (am_xor x n)) := ⟨by decide, fun x dp ac σ h1 h2 h3 h4 h5 h6 => gf1_2 k1_r_11 x dp ac σ h1 h2 h3 h4 h5 h6⟩

theorem k1_o_2 : bCo 2 1 2 1 [11] (fun x n => (am_xor x n)) := ⟨by decide, fun x dp ac σ h1 h2 h3 h4 h5 h6 => gown k1_f_1_2 x dp ac σ h1 h2 h3 h4 h5 h6⟩

theorem k1_r_2 : bCr 2 1 10 4 [10, 20, 1, 11] (fun x n => (w32 ((w32 ((w32 ((w32 (x + n)) + 3)) * 2)) - (am_xor 1 n)))) := ⟨by decide, fun x dp ac σ h1 h2 h3 h4 h5 h6 => gr2 k1_o_1 k1_o_2 x dp ac σ h1 h2 h3 h4 h5 h6⟩

theorem k1_f_1_3 : bCf 1 3 1 11 5 [2, 10, 20, 1, 11] (fun x n => (w32 ((w32 ((w32 ((w32 (x + n)) + 3)) * 2)) - (am_xor 1 n)))) := ⟨by decide, fun x dp ac σ h1 h2 h3 h4 h5 h6 => gf1_3 k1_r_2 x dp ac σ h1 h2 h3 h4 h5 h6⟩

theorem k1_o_3 : bCo 3 1 12 5 [2, 10, 20, 1, 11] (fun x n => (w32 ((w32 ((w32 ((w32 (x + n)) + 3)) * 2)) - (am_xor 1 n)))) := ⟨by decide, fun x dp ac σ h1 h2 h3 h4 h5 h6 => gown k1_f_1_3 x dp ac σ h1 h2 h3 h4 h5 h6⟩

theorem k2_r_1 : bCr 1 2 0 0 [] (fun x n => (w32 (x + n))) := ⟨by decide, fun x dp ac σ h1 h2 h3 h4 h5 h6 => gr1  x dp ac σ h1 h2 h3 h4 h5 h6⟩

theorem k2_f_2_0 : bCf 2 0 2 1 1 [1] (fun x n => (w32 (x + n))) := ⟨by decide, fun x dp ac σ h1 h2 h3 h4 h5 h6 => gf2_0 k2_r_1 x dp ac σ h1 h2 h3 h4 h5 h6⟩

theorem k2_o_0 : bCo 0 2 2 1 [1] (fun x n => (w32 (x + n))) := ⟨by decide, fun x dp ac σ h1 h2 h3 h4 h5 h6 => gown k2_f_2_0 x dp ac σ h1 h2 h3 h4 h5 h6⟩

theorem k2_r_10 : bCr 10 2 3 1 [1] (fun x n => (w32 ((w32 (x + n)) * 2))) := ⟨by decide, fun x dp ac σ h1 h2 h3 h4 h5 h6 => gr10 k2_o_0 x dp ac σ h1 h2 h3 h4 h5 h6⟩

theorem k2_f_0_1 : bCf 0 1 2 4 2 [10, 1] (fun x n => (w32 ((w32 (x + n)) * 2))) := ⟨by decide, fun x dp ac σ h1 h2 h3 h4 h5 h6 => gf0_1 k2_r_10 x dp ac σ h1 h2 h3 h4 h5 h6⟩

theorem k2_u_30_0 : bCu 30 0 2 5 2 [10, 1] (fun x n => (w32 (-(w32 ((w32 (x + n)) * 2))))) := ⟨by decide, fun x dp ac σ h1 h2 h3 h4 h5 h6 => gu30 k2_f_0_1 x dp ac σ h1 h2 h3 h4 h5 h6⟩

theorem k2_f_2_1 : bCf 2 1 2 6 3 [30, 10, 1] (fun x n => (w32 (-(w32 ((w32 (x + n)) * 2))))) := ⟨by decide, fun x dp ac σ h1 h2 h3 h4 h5 h6 => gf2_1 k2_u_30_0 x dp ac σ h1 h2 h3 h4 h5 h6⟩

theorem k2_o_1 : bCo 1 2 7 3 [30, 10, 1] (fun x n => (w32 (-(w32 ((w32 (x + n)) * 2))))) := ⟨by decide, fun x dp ac σ h1 h2 h3 h4 h5 h6 => gown k2_f_2_1 x dp ac σ h1 h2 h3 h4 h5 h6⟩

theorem k2_r_11 : bCr 11 2 0 0 [] (fun x n => (am_xor x n)) := ⟨by decide, fun x dp ac σ h1 h2 h3 h4 h5 h6 => gr11  x dp ac σ h1 h2 h3 h4 h5 h6⟩

theorem k2_f_2_2 : bCf 2 2 2 1 1 [11] (fun x n => (am_xor x n)) := ⟨by decide, fun x dp ac σ h1 h2 h3 h4 h5 h6 => gf2_2 k2_r_11 x dp ac σ h1 h2 h3 h4 h5 h6⟩

theorem k2_o_2 : bCo 2 2 2 1 [11] (fun x n => (am_xor x n)) := ⟨by decide, fun x dp ac σ h1 h2 h3 h4 h5 h6 => gown k2_f_2_2 x dp ac σ h1 h2 h3 h4 h5 h6⟩

theorem k2_r_2 : bCr 2 2 10 4 [30, 10, 1, 11] (fun x n => (w32 ((w32 (-(w32 ((w32 (x + n)) * 2)))) - (am_xor 1 n)))) := ⟨by decide, fun x dp ac σ h1 h2 h3 h4 h5 h6 => gr2 k2_o_1 k2_o_2 x dp ac σ h1 h2 h3 h4 h5 h6⟩

theorem k2_f_2_3 : bCf 2 3 2 11 5 [2, 30, 10, 1, 11] (fun x n => (w32 ((w32 (-(w32 ((w32 (x + n)) * 2)))) - (am_xor 1 n)))) := ⟨by decide, fun x dp ac σ h1 h2 h3 h4 h5 h6 => gf2_3 k2_r_2 x dp ac σ h1 h2 h3 h4 h5 h6⟩

theorem k2_o_3 : bCo 3 2 12 5 [2, 30, 10, 1, 11] (fun x n => (w32 ((w32 (-(w32 ((w32 (x + n)) * 2)))) - (am_xor 1 n)))) := ⟨by decide, fun x dp ac σ h1 h2 h3 h4 h5 h6 => gown k2_f_2_3 x dp ac σ h1 h2 h3 h4 h5 h6⟩

theorem k3_r_1 : bCr 1 3 0 0 [] (fun x n => (w32 (x + n))) := ⟨by decide, fun x dp ac σ h1 h2 h3 h4 h5 h6 => gr1  x dp ac σ h1 h2 h3 h4 h5 h6⟩

theorem k3_f_3_0 : bCf 3 0 3 1 1 [1] (fun x n => (w32 (x + n))) := ⟨by decide, fun x dp ac σ h1 h2 h3 h4 h5 h6 => gf3_0 k3_r_1 x dp ac σ h1 h2 h3 h4 h5 h6⟩

theorem k3_o_0 : bCo 0 3 2 1 [1] (fun x n => (w32 (x + n))) := ⟨by decide, fun x dp ac σ h1 h2 h3 h4 h5 h6 => gown k3_f_3_0 x dp ac σ h1 h2 h3 h4 h5 h6⟩

theorem k3_r_10 : bCr 10 3 3 1 [1] (fun x n => (w32 ((w32 (x + n)) * 2))) := ⟨by decide, fun x dp ac σ h1 h2 h3 h4 h5 h6 => gr10 k3_o_0 x dp ac σ h1 h2 h3 h4 h5 h6⟩

theorem k3_f_0_1 : bCf 0 1 3 4 2 [10, 1] (fun x n => (w32 ((w32 (x + n)) * 2))) := ⟨by decide, fun x dp ac σ h1 h2 h3 h4 h5 h6 => gf0_1 k3_r_10 x dp ac σ h1 h2 h3 h4 h5 h6⟩

theorem k3_u_30_0 : bCu 30 0 3 5 2 [10, 1] (fun x n => (w32 (-(w32 ((w32 (x + n)) * 2))))) := ⟨by decide, fun x dp ac σ h1 h2 h3 h4 h5 h6 => gu30 k3_f_0_1 x dp ac σ h1 h2 h3 h4 h5 h6⟩

theorem k3_f_2_1 : bCf 2 1 3 6 3 [30, 10, 1] (fun x n => (w32 (-(w32 ((w32 (x + n)) * 2))))) := ⟨by decide, fun x dp ac σ h1 h2 h3 h4 h5 h6 => gf2_1 k3_u_30_0 x dp ac σ h1 h2 h3 h4 h5 h6⟩

theorem k3_u_41_2 : bCu 41 2 3 7 3 [30, 10, 1] (fun x n => (w32 (-(w32 ((w32 ((w32 (x + 1)) + n)) * 2))))) := ⟨by decide, fun x dp ac σ h1 h2 h3 h4 h5 h6 => gu41 k3_f_2_1 x dp ac σ h1 h2 h3 h4 h5 h6⟩

theorem k3_f_3_1 : bCf 3 1 3 8 4 [41, 30, 10, 1] (fun x n => (w32 (-(w32 ((w32 ((w32 (x + 1)) + n)) * 2))))) := ⟨by decide, fun x dp ac σ h1 h2 h3 h4 h5 h6 => gf3_1 k3_u_41_2 x dp ac σ h1 h2 h3 h4 h5 h6⟩

theorem k3_o_1 : bCo 1 3 9 4 [41, 30, 10, 1] (fun x n => (w32 (-(w32 ((w32 ((w32 (x + 1)) + n)) * 2))))) := ⟨by decide, fun x dp ac σ h1 h2 h3 h4 h5 h6 => gown k3_f_3_1 x dp ac σ h1 h2 h3 h4 h5 h6⟩

theorem k3_r_11 : bCr 11 3 0 0 [] (fun x n => (am_xor x n)) := ⟨by decide, fun x dp ac σ h1 h2 h3 h4 h5 h6 => gr11  x dp ac σ h1 h2 h3 h4 h5 h6⟩

theorem k3_f_2_2 : bCf 2 2 3 1 1 [11] (fun x n => (am_xor x n)) := ⟨by decide, fun x dp ac σ h1 h2 h3 h4 h5 h6 => gf2_2 k3_r_11 x dp ac σ h1 h2 h3 h4 h5 h6⟩

theorem k3_u_40_2 : bCu 40 2 3 2 1 [11] (fun x n => (w32 ((am_xor x n) * 3))) := ⟨by decide, fun x dp ac σ h1 h2 h3 h4 h5 h6 => gu40 k3_f_2_2 x dp ac σ h1 h2 h3 h4 h5 h6⟩

theorem k3_f_3_2 : bCf 3 2 3 3 2 [40, 11] (fun x n => (w32 ((am_xor x n) * 3))) := ⟨by decide, fun x dp ac σ h1 h2 h3 h4 h5 h6 => gf3_2 k3_u_40_2 x dp ac σ h1 h2 h3 h4 h5 h6⟩

theorem k3_o_2 : bCo 2 3 4 2 [40, 11] (fun x n => (w32 ((am_xor x n) * 3))) := ⟨by decide, fun x dp ac σ h1 h2 h3 h4 h5 h6 => gown k3_f_3_2 x dp ac σ h1 h2 h3 h4 h5 h6⟩

theorem k3_r_2 : bCr 2 3 14 6 [41, 30, 10, 1, 40, 11] (fun x n => (w32 ((w32 (-(w32 ((w32 ((w32 (x + 1)) + n)) * 2)))) - (w32 ((am_xor 1 n) * 3))))) := ⟨by decide, fun x dp ac σ h1 h2 h3 h4 h5 h6 => gr2 k3_o_1 k3_o_2 x dp ac σ h1 h2 h3 h4 h5 h6⟩

theorem k3_f_3_3 : bCf 3 3 3 15 7 [2, 41, 30, 10, 1, 40, 11] (fun x n => (w32 ((w32 (-(w32 ((w32 ((w32 (x + 1)) + n)) * 2)))) - (w32 ((am_xor 1 n) * 3))))) := ⟨by decide, fun x dp ac σ h1 h2 h3 h4 h5 h6 => gf3_3 k3_r_2 x dp ac σ h1 h2 h3 h4 h5 h6⟩

theorem k3_o_3 : bCo 3 3 16 7 [2, 41, 30, 10, 1, 40, 11] (fun x n => (w32 ((w32 (-(w32 ((w32 ((w32 (x + 1)) + n)) * 2)))) - (w32 ((am_xor 1 n) * 3))))) := ⟨by decide, fun x dp ac σ h1 h2 h3 h4 h5 h6 => gown k3_f_3_3 x dp ac σ h1 h2 h3 h4 h5 h6⟩

theorem k4_r_1 : bCr 1 4 0 0 [] (fun x n => (w32 (x + n))) := ⟨by decide, fun x dp ac σ h1 h2 h3 h4 h5 h6 => gr1  x dp ac σ h1 h2 h3 h4 h5 h6⟩

theorem k4_f_0_0 : bCf 0 0 4 1 1 [1] (fun x n => (w32 (x + n))) := ⟨by decide, fun x dp ac σ h1 h2 h3 h4 h5 h6 => gf0_0 k4_r_1 x dp ac σ h1 h2 h3 h4 h5 h6⟩

theorem k4_u_20_0 : bCu 20 0 4 2 1 [1] (fun x n => (w32 ((w32 (x + n)) + 3))) := ⟨by decide, fun x dp ac σ h1 h2 h3 h4 h5 h6 => gu20 k4_f_0_0 x dp ac σ h1 h2 h3 h4 h5 h6⟩

theorem k4_f_4_0 : bCf 4 0 4 3 2 [20, 1] (fun x n => (w32 ((w32 (x + n)) + 3))) := ⟨by decide, fun x dp ac σ h1 h2 h3 h4 h5 h6 => gf4_0 k4_u_20_0 x dp ac σ h1 h2 h3 h4 h5 h6⟩

theorem k4_o_0 : bCo 0 4 4 2 [20, 1] (fun x n => (w32 ((w32 (x + n)) + 3))) := ⟨by decide, fun x dp ac σ h1 h2 h3 h4 h5 h6 => gown k4_f_4_0 x dp ac σ h1 h2 h3 h4 h5 h6⟩

theorem k4_r_10 : bCr 10 4 5 2 [20, 1] (fun x n => (w32 ((w32 ((w32 (x + n)) + 3)) * 2))) := ⟨by decide, fun x dp ac σ h1 h2 h3 h4 h5 h6 => gr10 k4_o_0 x dp ac σ h1 h2 h3 h4 h5 h6⟩

theorem k4_f_4_1 : bCf 4 1 4 6 3 [10, 20, 1] (fun x n => (w32 ((w32 ((w32 (x + n)) + 3)) * 2))) := ⟨by decide, fun x dp ac σ h1 h2 h3 h4 h5 h6 => gf4_1 k4_r_10 x dp ac σ h1 h2 h3 h4 h5 h6⟩

theorem k4_o_1 : bCo 1 4 7 3 [10, 20, 1] (fun x n => (w32 ((w32 ((w32 (x + n)) + 3)) * 2))) := ⟨by decide, fun x dp ac σ h1 h2 h3 h4 h5 h6 => gown k4_f_4_1 x dp ac σ h1 h2 h3 h4 h5 h6⟩

theorem k4_r_11 : bCr 11 4 0 0 [] (fun x n => (am_xor x n)) := ⟨by decide, fun x dp ac σ h1 h2 h3 h4 h5 h6 => gr11  x dp ac σ h1 h2 h3 h4 h5 h6⟩

theorem k4_f_1_2 : bCf 1 2 4 1 1 [11] (fun x n => (am_xor x n)) := ⟨by decide, fun x dp ac σ h1 h2 h3 h4 h5 h6 => gf1_2 k4_r_11 x dp ac σ h1 h2 h3 h4 h5 h6⟩

theorem k4_u_50_1 : bCu 50 1 4 6 3 [11, 20, 1] (fun x n => (w32 ((am_xor x n) - (w32 ((w32 (2 + n)) + 3))))) := ⟨by decide, fun x dp ac σ h1 h2 h3 h4 h5 h6 => gu50 k4_f_1_2 k4_o_0 x dp ac σ h1 h2 h3 h4 h5 h6⟩

theorem k4_f_4_2 : bCf 4 2 4 7 4 [50, 11, 20, 1] (fun x n => (w32 ((am_xor x n) - (w32 ((w32 (2 + n)) + 3))))) := ⟨by decide, fun x dp ac σ h1 h2 h3 h4 h5 h6 => gf4_2 k4_u_50_1 x dp ac σ h1 h2 h3 h4 h5 h6⟩

theorem k4_o_2 : bCo 2 4 8 4 [50, 11, 20, 1] (fun x n => (w32 ((am_xor x n) - (w32 ((w32 (2 + n)) + 3))))) := ⟨by decide, fun x dp ac σ h1 h2 h3 h4 h5 h6 => gown k4_f_4_2 x dp ac σ h1 h2 h3 h4 h5 h6⟩

theorem k4_r_2 : bCr 2 4 16 7 [10, 20, 1, 50, 11, 20, 1] (fun x n => (w32 ((w32 ((w32 ((w32 (x + n)) + 3)) * 2)) - (w32 ((am_xor 1 n) - (w32 ((w32 (2 + n)) + 3))))))) := ⟨by decide, fun x dp ac σ h1 h2 h3 h4 h5 h6 => gr2 k4_o_1 k4_o_2 x dp ac σ h1 h2 h3 h4 h5 h6⟩

theorem k4_f_4_3 : bCf 4 3 4 17 8 [2, 10, 20, 1, 50, 11, 20, 1] (fun x n => (w32 ((w32 ((w32 ((w32 (x + n)) + 3)) * 2)) - (w32 ((am_xor 1 n) - (w32 ((w32 (2 + n)) + 3))))))) := ⟨by decide, fun x dp ac σ h1 h2 h3 h4 h5 h6 => gf4_3 k4_r_2 x dp ac σ h1 h2 h3 h4 h5 h6⟩

theorem k4_o_3 : bCo 3 4 18 8 [2, 10, 20, 1, 50, 11, 20, 1] (fun x n => (w32 ((w32 ((w32 ((w32 (x + n)) + 3)) * 2)) - (w32 ((am_xor 1 n) - (w32 ((w32 (2 + n)) + 3))))))) := ⟨by decide, fun x dp ac σ h1 h2 h3 h4 h5 h6 => gown k4_f_4_3 x dp ac σ h1 h2 h3 h4 h5 h6⟩

theorem k5_r_1 : bCr 1 5 0 0 [] (fun x n => (w32 (x + n))) := ⟨by decide, fun x dp ac σ h1 h2 h3 h4 h5 h6 => gr1  x dp ac σ h1 h2 h3 h4 h5 h6⟩

theorem k5_f_5_0 : bCf 5 0 5 1 1 [1] (fun x n => (w32 (x + n))) := ⟨by decide, fun x dp ac σ h1 h2 h3 h4 h5 h6 => gf5_0 k5_r_1 x dp ac σ h1 h2 h3 h4 h5 h6⟩

theorem k5_o_0 : bCo 0 5 2 1 [1] (fun x n => (w32 (x + n))) := ⟨by decide, fun x dp ac σ h1 h2 h3 h4 h5 h6 => gown k5_f_5_0 x dp ac σ h1 h2 h3 h4 h5 h6⟩

theorem k5_r_10 : bCr 10 5 3 1 [1] (fun x n => (w32 ((w32 (x + n)) * 2))) := ⟨by decide, fun x dp ac σ h1 h2 h3 h4 h5 h6 => gr10 k5_o_0 x dp ac σ h1 h2 h3 h4 h5 h6⟩

theorem k5_f_0_1 : bCf 0 1 5 4 2 [10, 1] (fun x n => (w32 ((w32 (x + n)) * 2))) := ⟨by decide, fun x dp ac σ h1 h2 h3 h4 h5 h6 => gf0_1 k5_r_10 x dp ac σ h1 h2 h3 h4 h5 h6⟩

theorem k5_u_30_0 : bCu 30 0 5 5 2 [10, 1] (fun x n => (w32 (-(w32 ((w32 (x + n)) * 2))))) := ⟨by decide, fun x dp ac σ h1 h2 h3 h4 h5 h6 => gu30 k5_f_0_1 x dp ac σ h1 h2 h3 h4 h5 h6⟩

theorem k5_f_2_1 : bCf 2 1 5 6 3 [30, 10, 1] (fun x n => (w32 (-(w32 ((w32 (x + n)) * 2))))) := ⟨by decide, fun x dp ac σ h1 h2 h3 h4 h5 h6 => gf2_1 k5_u_30_0 x dp ac σ h1 h2 h3 h4 h5 h6⟩

theorem k5_u_41_2 : bCu 41 2 5 7 3 [30, 10, 1] (fun x n => (w32 (-(w32 ((w32 ((w32 (x + 1)) + n)) * 2))))) := ⟨by decide, fun x dp ac σ h1 h2 h3 h4 h5 h6 => gu41 k5_f_2_1 x dp ac σ h1 h2 h3 h4 h5 h6⟩

theorem k5_f_5_1 : bCf 5 1 5 8 4 [41, 30, 10, 1] (fun x n => (w32 (-(w32 ((w32 ((w32 (x + 1)) + n)) * 2))))) := ⟨by decide, fun x dp ac σ h1 h2 h3 h4 h5 h6 => gf5_1 k5_u_41_2 x dp ac σ h1 h2 h3 h4 h5 h6⟩

theorem k5_o_1 : bCo 1 5 9 4 [41, 30, 10, 1] (fun x n => (w32 (-(w32 ((w32 ((w32 (x + 1)) + n)) * 2))))) := ⟨by decide, fun x dp ac σ h1 h2 h3 h4 h5 h6 => gown k5_f_5_1 x dp ac σ h1 h2 h3 h4 h5 h6⟩

theorem k5_r_11 : bCr 11 5 0 0 [] (fun x n => (am_xor x n)) := ⟨by decide, fun x dp ac σ h1 h2 h3 h4 h5 h6 => gr11  x dp ac σ h1 h2 h3 h4 h5 h6⟩

theorem k5_f_2_2 : bCf 2 2 5 1 1 [11] (fun x n => (am_xor x n)) := ⟨by decide, fun x dp ac σ h1 h2 h3 h4 h5 h6 => gf2_2 k5_r_11 x dp ac σ h1 h2 h3 h4 h5 h6⟩

theorem k5_u_40_2 : bCu 40 2 5 2 1 [11] (fun x n => (w32 ((am_xor x n) * 3))) := ⟨by decide, fun x dp ac σ h1 h2 h3 h4 h5 h6 => gu40 k5_f_2_2 x dp ac σ h1 h2 h3 h4 h5 h6⟩

theorem k5_f_5_2 : bCf 5 2 5 3 2 [40, 11] (fun x n => (w32 ((am_xor x n) * 3))) := ⟨by decide, fun x dp ac σ h1 h2 h3 h4 h5 h6 => gf5_2 k5_u_40_2 x dp ac σ h1 h2 h3 h4 h5 h6⟩

theorem k5_o_2 : bCo 2 5 4 2 [40, 11] (fun x n => (w32 ((am_xor x n) * 3))) := ⟨by decide, fun x dp ac σ h1 h2 h3 h4 h5 h6 => gown k5_f_5_2 x dp ac σ h1 h2 h3 h4 h5 h6⟩

theorem k5_r_2 : bCr 2 5 14 6 [41, 30, 10, 1, 40, 11] (fun x n => (w32 ((w32 (-(w32 ((w32 ((w32 (x + 1)) + n)) * 2)))) - (w32 ((am_xor 1 n) * 3))))) := ⟨by decide, fun x dp ac σ h1 h2 h3 h4 h5 h6 => gr2 k5_o_1 k5_o_2 x dp ac σ h1 h2 h3 h4 h5 h6⟩

theorem k5_f_3_3 : bCf 3 3 5 15 7 [2, 41, 30, 10, 1, 40, 11] (fun x n => (w32 ((w32 (-(w32 ((w32 ((w32 (x + 1)) + n)) * 2)))) - (w32 ((am_xor 1 n) * 3))))) := ⟨by decide, fun x dp ac σ h1 h2 h3 h4 h5 h6 => gf3_3 k5_r_2 x dp ac σ h1 h2 h3 h4 h5 h6⟩

theorem k5_u_60_3 : bCu 60 3 5 16 7 [2, 41, 30, 10, 1, 40, 11] (fun x n => (am_xor (w32 ((w32 (-(w32 ((w32 ((w32 (x + 1)) + n)) * 2)))) - (w32 ((am_xor 1 n) * 3)))) 5)) := ⟨by decide, fun x dp ac σ h1 h2 h3 h4 h5 h6 => gu60 k5_f_3_3 x dp ac σ h1 h2 h3 h4 h5 h6⟩

theorem k5_f_5_3 : bCf 5 3 5 17 8 [60, 2, 41, 30, 10, 1, 40, 11] (fun x n => (am_xor (w32 ((w32 (-(w32 ((w32 ((w32 (x + 1)) + n)) * 2)))) - (w32 ((am_xor 1 n) * 3)))) 5)) := ⟨by decide, fun x dp ac σ h1 h2 h3 h4 h5 h6 => gf5_3 k5_u_60_3 x dp ac σ h1 h2 h3 h4 h5 h6⟩

theorem k5_o_3 : bCo 3 5 18 8 [60, 2, 41, 30, 10, 1, 40, 11] (fun x n => (am_xor (w32 ((w32 (-(w32 ((w32 ((w32 (x + 1)) + n)) * 2)))) - (w32 ((am_xor 1 n) * 3)))) 5)) := ⟨by decide, fun x dp ac σ h1 h2 h3 h4 h5 h6 => gown k5_f_5_3 x dp ac σ h1 h2 h3 h4 h5 h6⟩

theorem k6_r_1 : bCr 1 6 0 0 [] (fun x n => (w32 (x + n))) := ⟨by decide, fun x dp ac σ h1 h2 h3 h4 h5 h6 => gr1  x dp ac σ h1 h2 h3 h4 h5 h6⟩

theorem k6_f_0_0 : bCf 0 0 6 1 1 [1] (fun x n => (w32 (x + n))) := ⟨by decide, fun x dp ac σ h1 h2 h3 h4 h5 h6 => gf0_0 k6_r_1 x dp ac σ h1 h2 h3 h4 h5 h6⟩

theorem k6_u_70_0 : bCu 70 0 6 2 1 [1] (fun x n => (w32 ((w32 (x + n)) * 2))) := ⟨by decide, fun x dp ac σ h1 h2 h3 h4 h5 h6 => gu70 k6_f_0_0 x dp ac σ h1 h2 h3 h4 h5 h6⟩

theorem k6_f_6_0 : bCf 6 0 6 3 2 [70, 1] (fun x n => (w32 ((w32 (x + n)) * 2))) := ⟨by decide, fun x dp ac σ h1 h2 h3 h4 h5 h6 => gf6_0 k6_u_70_0 x dp ac σ h1 h2 h3 h4 h5 h6⟩

theorem k6_o_0 : bCo 0 6 4 2 [70, 1] (fun x n => (w32 ((w32 (x + n)) * 2))) := ⟨by decide, fun x dp ac σ h1 h2 h3 h4 h5 h6 => gown k6_f_6_0 x dp ac σ h1 h2 h3 h4 h5 h6⟩

theorem k6_r_10 : bCr 10 6 5 2 [70, 1] (fun x n => (w32 ((w32 ((w32 (x + n)) * 2)) * 2))) := ⟨by decide, fun x dp ac σ h1 h2 h3 h4 h5 h6 => gr10 k6_o_0 x dp ac σ h1 h2 h3 h4 h5 h6⟩

theorem k6_f_6_1 : bCf 6 1 6 6 3 [10, 70, 1] (fun x n => (w32 ((w32 ((w32 (x + n)) * 2)) * 2))) := ⟨by decide, fun x dp ac σ h1 h2 h3 h4 h5 h6 => gf6_1 k6_r_10 x dp ac σ h1 h2 h3 h4 h5 h6⟩

theorem k6_o_1 : bCo 1 6 7 3 [10, 70, 1] (fun x n => (w32 ((w32 ((w32 (x + n)) * 2)) * 2))) := ⟨by decide, fun x dp ac σ h1 h2 h3 h4 h5 h6 => gown k6_f_6_1 x dp ac σ h1 h2 h3 h4 h5 h6⟩

theorem k6_r_11 : bCr 11 6 0 0 [] (fun x n => (am_xor x n)) := ⟨by decide, fun x dp ac σ h1 h2 h3 h4 h5 h6 => gr11  x dp ac σ h1 h2 h3 h4 h5 h6⟩

theorem k6_f_6_2 : bCf 6 2 6 1 1 [11] (fun x n => (am_xor x n)) := ⟨by decide, fun x dp ac σ h1 h2 h3 h4 h5 h6 => gf6_2 k6_r_11 x dp ac σ h1 h2 h3 h4 h5 h6⟩

theorem k6_o_2 : bCo 2 6 2 1 [11] (fun x n => (am_xor x n)) := ⟨by decide, fun x dp ac σ h1 h2 h3 h4 h5 h6 => gown k6_f_6_2 x dp ac σ h1 h2 h3 h4 h5 h6⟩

theorem k6_r_2 : bCr 2 6 10 4 [10, 70, 1, 11] (fun x n => (w32 ((w32 ((w32 ((w32 (x + n)) * 2)) * 2)) - (am_xor 1 n)))) := ⟨by decide, fun x dp ac σ h1 h2 h3 h4 h5 h6 => gr2 k6_o_1 k6_o_2 x dp ac σ h1 h2 h3 h4 h5 h6⟩

theorem k6_f_6_3 : bCf 6 3 6 11 5 [2, 10, 70, 1, 11] (fun x n => (w32 ((w32 ((w32 ((w32 (x + n)) * 2)) * 2)) - (am_xor 1 n)))) := ⟨by decide, fun x dp ac σ h1 h2 h3 h4 h5 h6 => gf6_3 k6_r_2 x dp ac σ h1 h2 h3 h4 h5 h6⟩

theorem k6_o_3 : bCo 3 6 12 5 [2, 10, 70, 1, 11] (fun x n => (w32 ((w32 ((w32 ((w32 (x + n)) * 2)) * 2)) - (am_xor 1 n)))) := ⟨by decide, fun x dp ac σ h1 h2 h3 h4 h5 h6 => gown k6_f_6_3 x dp ac σ h1 h2 h3 h4 h5 h6⟩

theorem k7_r_1 : bCr 1 7 0 0 [] (fun x n => (w32 (x + n))) := ⟨by decide, fun x dp ac σ h1 h2 h3 h4 h5 h6 => gr1  x dp ac σ h1 h2 h3 h4 h5 h6⟩

theorem k7_f_0_0 : bCf 0 0 7 1 1 [1] (fun x n => (w32 (x + n))) := ⟨by decide, fun x dp ac σ h1 h2 h3 h4 h5 h6 => gf0_0 k7_r_1 x dp ac σ h1 h2 h3 h4 h5 h6⟩

theorem k7_u_20_0 : bCu 20 0 7 2 1 [1] (fun x n => (w32 ((w32 (x + n)) + 3))) := ⟨by decide, fun x dp ac σ h1 h2 h3 h4 h5 h6 => gu20 k7_f_0_0 x dp ac σ h1 h2 h3 h4 h5 h6⟩

theorem k7_f_7_0 : bCf 7 0 7 3 2 [20, 1] (fun x n => (w32 ((w32 (x + n)) + 3))) := ⟨by decide, fun x dp ac σ h1 h2 h3 h4 h5 h6 => gf7_0 k7_u_20_0 x dp ac σ h1 h2 h3 h4 h5 h6⟩

theorem k7_o_0 : bCo 0 7 4 2 [20, 1] (fun x n => (w32 ((w32 (x + n)) + 3))) := ⟨by decide, fun x dp ac σ h1 h2 h3 h4 h5 h6 => gown k7_f_7_0 x dp ac σ h1 h2 h3 h4 h5 h6⟩

theorem k7_r_10 : bCr 10 7 5 2 [20, 1] (fun x n => (w32 ((w32 ((w32 (x + n)) + 3)) * 2))) := ⟨by decide, fun x dp ac σ h1 h2 h3 h4 h5 h6 => gr10 k7_o_0 x dp ac σ h1 h2 h3 h4 h5 h6⟩

theorem k7_f_4_1 : bCf 4 1 7 6 3 [10, 20, 1] (fun x n => (w32 ((w32 ((w32 (x + n)) + 3)) * 2))) := ⟨by decide, fun x dp ac σ h1 h2 h3 h4 h5 h6 => gf4_1 k7_r_10 x dp ac σ h1 h2 h3 h4 h5 h6⟩

theorem k7_r_11 : bCr 11 7 0 0 [] (fun x n => (am_xor x n)) := ⟨by decide, fun x dp ac σ h1 h2 h3 h4 h5 h6 => gr11  x dp ac σ h1 h2 h3 h4 h5 h6⟩

theorem k7_f_1_2 : bCf 1 2 7 1 1 [11] (fun x n => (am_xor x n)) := ⟨by decide, fun x dp ac σ h1 h2 h3 h4 h5 h6 => gf1_2 k7_r_11 x dp ac σ h1 h2 h3 h4 h5 h6⟩

theorem k7_u_50_1 : bCu 50 1 7 6 3 [11, 20, 1] (fun x n => (w32 ((am_xor x n) - (w32 ((w32 (2 + n)) + 3))))) := ⟨by decide, fun x dp ac σ h1 h2 h3 h4 h5 h6 => gu50 k7_f_1_2 k7_o_0 x dp ac σ h1 h2 h3 h4 h5 h6⟩

theorem k7_f_7_2 : bCf 7 2 7 7 4 [50, 11, 20, 1] (fun x n => (w32 ((am_xor x n) - (w32 ((w32 (2 + n)) + 3))))) := ⟨by decide, fun x dp ac σ h1 h2 h3 h4 h5 h6 => gf7_2 k7_u_50_1 x dp ac σ h1 h2 h3 h4 h5 h6⟩

theorem k7_o_2 : bCo 2 7 8 4 [50, 11, 20, 1] (fun x n => (w32 ((am_xor x n) - (w32 ((w32 (2 + n)) + 3))))) := ⟨by decide, fun x dp ac σ h1 h2 h3 h4 h5 h6 => gown k7_f_7_2 x dp ac σ h1 h2 h3 h4 h5 h6⟩

theorem k7_u_80_4 : bCu 80 4 7 15 7 [10, 20, 1, 50, 11, 20, 1] (fun x n => (w32 ((w32 ((w32 ((w32 (x + n)) + 3)) * 2)) + (w32 ((am_xor 2 n) - (w32 ((w32 (2 + n)) + 3))))))) := ⟨by decide, fun x dp ac σ h1 h2 h3 h4 h5 h6 => gu80 k7_f_4_1 k7_o_2 x dp ac σ h1 h2 h3 h4 h5 h6⟩

theorem k7_f_7_1 : bCf 7 1 7 16 8 [80, 10, 20, 1, 50, 11, 20, 1] (fun x n => (w32 ((w32 ((w32 ((w32 (x + n)) + 3)) * 2)) + (w32 ((am_xor 2 n) - (w32 ((w32 (2 + n)) + 3))))))) := ⟨by decide, fun x dp ac σ h1 h2 h3 h4 h5 h6 => gf7_1 k7_u_80_4 x dp ac σ h1 h2 h3 h4 h5 h6⟩

theorem k7_o_1 : bCo 1 7 17 8 [80, 10, 20, 1, 50, 11, 20, 1] (fun x n => (w32 ((w32 ((w32 ((w32 (x + n)) + 3)) * 2)) + (w32 ((am_xor 2 n) - (w32 ((w32 (2 + n)) + 3))))))) := ⟨by decide, fun x dp ac σ h1 h2 h3 h4 h5 h6 => gown k7_f_7_1 x dp ac σ h1 h2 h3 h4 h5 h6⟩

theorem k7_r_2 : bCr 2 7 26 12 [80, 10, 20, 1, 50, 11, 20, 1, 50, 11, 20, 1] (fun x n => (w32 ((w32 ((w32 ((w32 ((w32 (x + n)) + 3)) * 2)) + (w32 ((am_xor 2 n) - (w32 ((w32 (2 + n)) + 3)))))) - (w32 ((am_xor 1 n) - (w32 ((w32 (2 + n)) + 3))))))) := ⟨by decide, fun x dp ac σ h1 h2 h3 h4 h5 h6 => gr2 k7_o_1 k7_o_2 x dp ac σ h1 h2 h3 h4 h5 h6⟩

theorem k7_f_4_3 : bCf 4 3 7 27 13 [2, 80, 10, 20, 1, 50, 11, 20, 1, 50, 11, 20, 1] (fun x n => (w32 ((w32 ((w32 ((w32 ((w32 (x + n)) + 3)) * 2)) + (w32 ((am_xor 2 n) - (w32 ((w32 (2 + n)) + 3)))))) - (w32 ((am_xor 1 n) - (w32 ((w32 (2 + n)) + 3))))))) := ⟨by decide, fun x dp ac σ h1 h2 h3 h4 h5 h6 => gf4_3 k7_r_2 x dp ac σ h1 h2 h3 h4 h5 h6⟩

theorem k7_u_81_4 : bCu 81 4 7 28 13 [2, 80, 10, 20, 1, 50, 11, 20, 1, 50, 11, 20, 1] (fun x n => (w32 ((w32 ((w32 ((w32 ((w32 ((w32 (x + n)) + 3)) * 2)) + (w32 ((am_xor 2 n) - (w32 ((w32 (2 + n)) + 3)))))) - (w32 ((am_xor 1 n) - (w32 ((w32 (2 + n)) + 3)))))) - 1))) := ⟨by decide, fun x dp ac σ h1 h2 h3 h4 h5 h6 => gu81 k7_f_4_3 x dp ac σ h1 h2 h3 h4 h5 h6⟩

theorem k7_f_7_3 : bCf 7 3 7 29 14 [81, 2, 80, 10, 20, 1, 50, 11, 20, 1, 50, 11, 20, 1] (fun x n => (w32 ((w32 ((w32 ((w32 ((w32 ((w32 (x + n)) + 3)) * 2)) + (w32 ((am_xor 2 n) - (w32 ((w32 (2 + n)) + 3)))))) - (w32 ((am_xor 1 n) - (w32 ((w32 (2 + n)) + 3)))))) - 1))) := ⟨by decide, fun x dp ac σ h1 h2 h3 h4 h5 h6 => gf7_3 k7_u_81_4 x dp ac σ h1 h2 h3 h4 h5 h6⟩

theorem k7_o_3 : bCo 3 7 30 14 [81, 2, 80, 10, 20, 1, 50, 11, 20, 1, 50, 11, 20, 1] (fun x n => (w32 ((w32 ((w32 ((w32 ((w32 ((w32 (x + n)) + 3)) * 2)) + (w32 ((am_xor 2 n) - (w32 ((w32 (2 + n)) + 3)))))) - (w32 ((am_xor 1 n) - (w32 ((w32 (2 + n)) + 3)))))) - 1))) := ⟨by decide, fun x dp ac σ h1 h2 h3 h4 h5 h6 => gown k7_f_7_3 x dp ac σ h1 h2 h3 h4 h5 h6⟩

def bd_val (K a x n : Int) : Int := (if K = 0 then (if a = 0 then (w32 (x + n)) else if a = 1 then (w32 ((w32 (x + n)) * 2)) else if a = 2 then (am_xor x n) else (w32 ((w32 ((w32 (x + n)) * 2)) - (am_xor 1 n)))) else if K = 1 then (if a = 0 then (w32 ((w32 (x + n)) + 3)) else if a = 1 then (w32 ((w32 ((w32 (x + n)) + 3)) * 2)) else if a = 2 then (am_xor x n) else (w32 ((w32 ((w32 ((w32 (x + n)) + 3)) * 2)) - (am_xor 1 n)))) else if K = 2 then (if a = 0 then (w32 (x + n)) else if a = 1 then (w32 (-(w32 ((w32 (x + n)) * 2)))) else if a = 2 then (am_xor x n) else (w32 ((w32 (-(w32 ((w32 (x + n)) * 2)))) - (am_xor 1 n)))) else if K = 3 then (if a = 0 then (w32 (x + n)) else if a = 1 then (w32 (-(w32 ((w32 ((w32 (x + 1)) + n)) * 2)))) else if a = 2 then (w32 ((am_xor x n) * 3)) else (w32 ((w32 (-(w32 ((w32 ((w32 (x + 1)) + n)) * 2)))) - (w32 ((am_xor 1 n) * 3))))) else if K = 4 then (if a = 0 then (w32 ((w32 (x + n)) + 3)) else if a = 1 then (w32 ((w32 ((w32 (x + n)) + 3)) * 2)) else if a = 2 then (w32 ((am_xor x n) - (w32 ((w32 (2 + n)) + 3)))) else (w32 ((w32 ((w32 ((w32 (x + n)) + 3)) * 2)) - (w32 ((am_xor 1 n) - (w32 ((w32 (2 + n)) + 3))))))) else if K = 5 then (if a = 0 then (w32 (x + n)) else if a = 1 then (w32 (-(w32 ((w32 ((w32 (x + 1)) + n)) * 2)))) else if a = 2 then (w32 ((am_xor x n) * 3)) else (am_xor (w32 ((w32 (-(w32 ((w32 ((w32 (x + 1)) + n)) * 2)))) - (w32 ((am_xor 1 n) * 3)))) 5)) else if K = 6 then (if a = 0 then (w32 ((w32 (x + n)) * 2)) else if a = 1 then (w32 ((w32 ((w32 (x + n)) * 2)) * 2)) else if a = 2 then (am_xor x n) else (w32 ((w32 ((w32 ((w32 (x + n)) * 2)) * 2)) - (am_xor 1 n)))) else (if a = 0 then (w32 ((w32 (x + n)) + 3)) else if a = 1 then (w32 ((w32 ((w32 ((w32 (x + n)) + 3)) * 2)) + (w32 ((am_xor 2 n) - (w32 ((w32 (2 + n)) + 3)))))) else if a = 2 then (w32 ((am_xor x n) - (w32 ((w32 (2 + n)) + 3)))) else (w32 ((w32 ((w32 ((w32 ((w32 ((w32 (x + n)) + 3)) * 2)) + (w32 ((am_xor 2 n) - (w32 ((w32 (2 + n)) + 3)))))) - (w32 ((am_xor 1 n) - (w32 ((w32 (2 + n)) + 3)))))) - 1))))
def bd_tr (K a : Int) : List Int := (if K = 0 then (if a = 0 then [1] else if a = 1 then [10, 1] else if a = 2 then [11] else [2, 10, 1, 11]) else if K = 1 then (if a = 0 then [20, 1] else if a = 1 then [10, 20, 1] else if a = 2 then [11] else [2, 10, 20, 1, 11]) else if K = 2 then (if a = 0 then [1] else if a = 1 then [30, 10, 1] else if a = 2 then [11] else [2, 30, 10, 1, 11]) else if K = 3 then (if a = 0 then [1] else if a = 1 then [41, 30, 10, 1] else if a = 2 then [40, 11] else [2, 41, 30, 10, 1, 40, 11]) else if K = 4 then (if a = 0 then [20, 1] else if a = 1 then [10, 20, 1] else if a = 2 then [50, 11, 20, 1] else [2, 10, 20, 1, 50, 11, 20, 1]) else if K = 5 then (if a = 0 then [1] else if a = 1 then [41, 30, 10, 1] else if a = 2 then [40, 11] else [60, 2, 41, 30, 10, 1, 40, 11]) else if K = 6 then (if a = 0 then [70, 1] else if a = 1 then [10, 70, 1] else if a = 2 then [11] else [2, 10, 70, 1, 11]) else (if a = 0 then [20, 1] else if a = 1 then [80, 10, 20, 1, 50, 11, 20, 1] else if a = 2 then [50, 11, 20, 1] else [81, 2, 80, 10, 20, 1, 50, 11, 20, 1, 50, 11, 20, 1]))

theorem bd_own (K a : Int) (hK8 : 0 ≤ K ∧ K ≤ 7) (ha4 : 0 ≤ a ∧ a ≤ 3) : ∃ d h : Nat, d ≤ 30 ∧ h ≤ 40 ∧ bCo a K d h (bd_tr K a) (bd_val K a) := by
  rcases (show K = 0 ∨ K = 1 ∨ K = 2 ∨ K = 3 ∨ K = 4 ∨ K = 5 ∨ K = 6 ∨ K = 7 by omega) with rfl | rfl | rfl | rfl | rfl | rfl | rfl | rfl <;> rcases (show a = 0 ∨ a = 1 ∨ a = 2 ∨ a = 3 by omega) with rfl | rfl | rfl | rfl
  · exact ⟨2, 1, by decide, by decide, k0_o_0⟩
  · exact ⟨5, 2, by decide, by decide, k0_o_1⟩
  · exact ⟨2, 1, by decide, by decide, k0_o_2⟩
  · exact ⟨10, 4, by decide, by decide, k0_o_3⟩
  · exact ⟨4, 2, by decide, by decide, k1_o_0⟩
  · exact ⟨7, 3, by decide, by decide, k1_o_1⟩
  · exact ⟨2, 1, by decide, by decide, k1_o_2⟩
  · exact ⟨12, 5, by decide, by decide, k1_o_3⟩
  · exact ⟨2, 1, by decide, by decide, k2_o_0⟩
  · exact ⟨7, 3, by decide, by decide, k2_o_1⟩
  · exact ⟨2, 1, by decide, by decide, k2_o_2⟩
  · exact ⟨12, 5, by decide, by decide, k2_o_3⟩
  · exact ⟨2, 1, by decide, by decide, k3_o_0⟩
  · exact ⟨9, 4, by decide, by decide, k3_o_1⟩
  · exact ⟨4, 2, by decide, by decide, k3_o_2⟩
  · exact ⟨16, 7, by decide, by decide, k3_o_3⟩
  · exact ⟨4, 2, by decide, by decide, k4_o_0⟩
  · exact ⟨7, 3, by decide, by decide, k4_o_1⟩
  · exact ⟨8, 4, by decide, by decide, k4_o_2⟩
  · exact ⟨18, 8, by decide, by decide, k4_o_3⟩
  · exact ⟨2, 1, by decide, by decide, k5_o_0⟩
  · exact ⟨9, 4, by decide, by decide, k5_o_1⟩
  · exact ⟨4, 2, by decide, by decide, k5_o_2⟩
  · exact ⟨18, 8, by decide, by decide, k5_o_3⟩
  · exact ⟨4, 2, by decide, by decide, k6_o_0⟩
  · exact ⟨7, 3, by decide, by decide, k6_o_1⟩
  · exact ⟨2, 1, by decide, by decide, k6_o_2⟩
  · exact ⟨12, 5, by decide, by decide, k6_o_3⟩
  · exact ⟨4, 2, by decide, by decide, k7_o_0⟩
  · exact ⟨17, 8, by decide, by decide, k7_o_1⟩
  · exact ⟨8, 4, by decide, by decide, k7_o_2⟩
  · exact ⟨30, 14, by decide, by decide, k7_o_3⟩

set_option maxHeartbeats 4000000 in
set_option maxRecDepth 100000 in
theorem m_X0_perform (kd a x : Int) (b : Nat) (hK8 : 0 ≤ kd ∧ kd ≤ 7) (ha4 : 0 ≤ a ∧ a ≤ 3) (hb2 : b < 50) (σ : am_H) (hK : σ 47 b = kd) (hr : σ 46 3 = 0) : am_Mi yX0_perform cX0_perform 4 (some .int) 31 0 0 [vr 46, vi (b : Int), vi a, vi x] SH σ (fun r sh' σ' => SH = sh' ∧ bn (bd_tr kd a) (am_up σ 46 4 (b : Int)) = σ' ∧ r = bd_val kd a x (b : Int)) := by
  refine am_Mi_of (by decide +kernel) (Nat.le_of_ble_eq_true rfl) (fun K X hY hI hret => ?_)
  show am_G K 0 [some (vr 46), some (vi (b : Int)), some (vi a), some (vi x)] [] SH σ
  obtain ⟨d0, h0, hd0, hh0, H0⟩ := bd_own kd a hK8 ha4
  have hl0 := H0.1
  refine am_aload_n (x := 46) X (by rfl) dX0_perform_0 ?_
  refine am_iload_n (x := (b : Int)) X (by rfl) dX0_perform_1 ?_
  refine am_puti X 46 fl_X0_29 rfl rfl sh_46 (by decide) dX0_perform_2 ?_
  refine am_aload_n (x := 46) X (by rfl) dX0_perform_5 ?_
  refine am_iload_n (x := a) X (by rfl) dX0_perform_6 ?_
  refine am_iload_n (x := x) X (by rfl) dX0_perform_7 ?_
  refine am_ic X (by decide) dX0_perform_8 ?_
  refine am_callVi (ci := 0) X hY lk_X0_32 mf_X0_own (H0.2 x 0 b (am_up σ 46 4 (b : Int)) (by omega) (by omega) am_up_eq hb2 ((am_up_k (by omega)).trans hK) (by rw [am_up_k (by omega)]; omega)) (by omega) (by decide) (Nat.le_refl _) (Nat.le_refl _) sh_46 rfl rfl rfl (Nat.le_of_ble_eq_true rfl) dX0_perform_9 (fun r9 sh9 σ9 hr9 hp9 => ?_)
  obtain ⟨rfl, rfl, hq9⟩ := hp9
  exact hret _ _ _ _ _ dX0_perform_12 rfl rfl (⟨rfl, rfl, hq9⟩)

set_option maxHeartbeats 4000000 in
set_option maxRecDepth 100000 in
theorem m_X9_act (σ : am_H) (b a x : Int) (hb : 0 ≤ σ 46 2 ∧ σ 46 2 ≤ 50) (hk : ∀ j : Nat, (j : Int) < σ 46 2 → 0 ≤ σ 47 j ∧ σ 47 j ≤ 7) : am_Mi yX9_act cX9_act 4 (some .int) 32 0 0 [vr 0, vi b, vi a, vi x] SH σ (fun r sh' σ' => SH = sh' ∧ ((((0 ≤ b ∧ b < σ 46 2) ∧ 0 ≤ a ∧ a ≤ 3) ∧ bn (bd_tr (σ 47 b.toNat) a) (am_up (am_up σ 46 3 0) 46 4 b) = σ' ∧ r = bd_val (σ 47 b.toNat) a x b) ∨ (¬ ((0 ≤ b ∧ b < σ 46 2) ∧ 0 ≤ a ∧ a ≤ 3) ∧ am_up σ 46 3 0 = σ' ∧ r = 0))) := by
  refine am_Mi_of (by decide +kernel) (Nat.le_of_ble_eq_true rfl) (fun K X hY hI hret => ?_)
  show am_G K 0 [some (vr 0), some (vi b), some (vi a), some (vi x)] [] SH σ
  have hz2 : am_up σ 46 3 0 46 2 = σ 46 2 := am_up_k (by omega)
  refine am_aload_n (x := 0) X (by rfl) dX9_act_0 ?_
  refine am_getr (c1 := 46) X 0 fl_X9_60 (by decide) sh_0 (by decide) (by rfl) dX9_act_1 ?_
  refine am_ic X (by decide) dX9_act_4 ?_
  refine am_puti X 46 fl_X9_289 rfl rfl sh_46 (by decide) dX9_act_5 ?_
  refine am_aload_n (x := 0) X (by rfl) dX9_act_8 ?_
  refine am_getr (c1 := 46) X 0 fl_X9_60 (by decide) sh_0 (by decide) (by rfl) dX9_act_9 ?_
  refine am_iload_n (x := b) X (by rfl) dX9_act_12 ?_
  refine am_callVi (ci := 0) X hY lk_X9_292 mf_X0_isBody (m_X0_isBody b (am_up σ 46 3 0) (by rw [am_up_k (by omega)]; exact hb)) (by decide) (by decide) (Nat.le_refl _) (Nat.le_refl _) sh_46 rfl rfl rfl (Nat.le_of_ble_eq_true rfl) dX9_act_13 (fun r13 sh13 σ13 hr13 hp13 => ?_)
  obtain ⟨rfl, rfl, hq13⟩ := hp13
  refine am_if_eq (tgt := 28) X dX9_act_16 (by decide) (fun h16 => ?_) (fun h16 => ?_)
  · skip
    refine am_ic X (by decide) dX9_act_28 ?_
    exact hret _ _ _ _ _ dX9_act_29 rfl rfl (⟨rfl, Or.inr ⟨by omega, rfl, rfl⟩⟩)
  · skip
    refine am_iload_n (x := a) X (by rfl) dX9_act_19 ?_
    refine am_ic X (by decide) dX9_act_20 ?_
    refine am_ic X (by decide) dX9_act_21 ?_
    refine am_callSi X hY lk_X9_75 mf_X9_within (m_X9_within a 0 3 _ (am_up σ 46 3 0)) (by decide) (by decide) (Nat.le_refl _) (Nat.le_refl _) rfl rfl (Nat.le_of_ble_eq_true rfl) dX9_act_22 (fun r22 sh22 σ22 hr22 hp22 => ?_)
    obtain ⟨rfl, rfl, hq22⟩ := hp22
    refine am_if_ne (tgt := 30) X dX9_act_25 (by decide) (fun h25 => ?_) (fun h25 => ?_)
    · skip
      have hbc : ((b.toNat : Nat) : Int) = b := by omega
      have hkb := hk b.toNat (by omega)
      have hM := m_X0_perform (σ 47 b.toNat) a x b.toNat (by omega) (by omega) (by omega) (am_up σ 46 3 0) (am_up_k (by omega)) am_up_eq
      rw [hbc] at hM
      refine am_aload_n (x := 0) X (by rfl) dX9_act_30 ?_
      refine am_getr (c1 := 46) X 0 fl_X9_60 (by decide) sh_0 (by decide) (by rfl) dX9_act_31 ?_
      refine am_iload_n (x := b) X (by rfl) dX9_act_34 ?_
      refine am_iload_n (x := a) X (by rfl) dX9_act_35 ?_
      refine am_iload_n (x := x) X (by rfl) dX9_act_36 ?_
      refine am_callVi (ci := 0) X hY lk_X9_295 mf_X0_perform hM (by decide) (by decide) (Nat.le_refl _) (Nat.le_refl _) sh_46 rfl rfl rfl (Nat.le_of_ble_eq_true rfl) dX9_act_37 (fun r37 sh37 σ37 hr37 hp37 => ?_)
      obtain ⟨rfl, rfl, hq37⟩ := hp37
      exact hret _ _ _ _ _ dX9_act_40 rfl rfl (⟨rfl, Or.inl ⟨by omega, rfl, hq37⟩⟩)
    · skip
      refine am_ic X (by decide) dX9_act_28 ?_
      exact hret _ _ _ _ _ dX9_act_29 rfl rfl (⟨rfl, Or.inr ⟨by omega, rfl, rfl⟩⟩)
