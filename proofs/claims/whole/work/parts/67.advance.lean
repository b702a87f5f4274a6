/-! ===== the class's tokens ===== -/
set_option maxRecDepth 20000 in
theorem sX6_advance_0 {G : ZG} {d : Nat} {iv : Nat → Nat → Int} {K : Option AV → AH → Prop} {rv : Nat → Nat → Option Nat} {o0 : Nat} (hR : RC rv) (h_o0 : isSh o0) (ht : rv o0 4 = some 54) (h : ((iv o0 5) ≤ (iv o0 6) → (Z G mX6_advance d 0 0 52 [vr (some o0), vu] [] (mkC iv rv) K)) ∧ ((iv o0 6) < (iv o0 5) → ((0 ≤ (iv o0 6) ∧ (iv o0 6) < (600 : Nat)) ∧ (((iv 54 ((iv o0 6).toNat)) = 10 → ((-2147483648 ≤ ((iv o0 6) + 1) ∧ ((iv o0 6) + 1) ≤ 2147483647) ∧ (Z G mX6_advance d 0 0 0 [vr (some o0), vu] [] (mkC (iu iv o0 6 ((iv o0 6) + 1)) rv) K))) ∧ (¬ (iv 54 ((iv o0 6).toNat)) = 10 → ((0 ≤ (iv o0 6) ∧ (iv o0 6) < (600 : Nat)) ∧ ((¬ (iv 54 ((iv o0 6).toNat)) = 32 → (Z G mX6_advance d 0 0 52 [vr (some o0), vu] [] (mkC iv rv) K)) ∧ ((iv 54 ((iv o0 6).toNat)) = 32 → ((-2147483648 ≤ ((iv o0 6) + 1) ∧ ((iv o0 6) + 1) ≤ 2147483647) ∧ (Z G mX6_advance d 0 0 0 [vr (some o0), vu] [] (mkC (iu iv o0 6 ((iv o0 6) + 1)) rv) K)))))))))) : Z G mX6_advance d 0 0 0 [vr (some o0), vu] [] (mkC iv rv) K := (Z_aload_n (dX6_advance 0) rfl (Z_gIC (x := (iv o0 6)) (dX6_advance 1) lk_X6_39 (Sh_sh h_o0) (Or.inl rfl) rfl (Z_aload_n (dX6_advance 2) rfl (Z_gIC (x := (iv o0 5)) (dX6_advance 3) lk_X6_35 (Sh_sh h_o0) (Or.inl rfl) rfl (Z_icmp_ge (dX6_advance 4) rfl (fun c1 => (h.1 c1)) (fun c2 => (Z_aload_n (dX6_advance 5) rfl (Z_gRC (r := (some 54)) (dX6_advance 6) lk_X6_25 (Sh_sh h_o0) rfl ht (Z_aload_n (dX6_advance 7) rfl (Z_gIC (x := (iv o0 6)) (dX6_advance 8) lk_X6_39 (Sh_sh h_o0) (Or.inl rfl) rfl (Z_blC (x := (iv 54 ((iv o0 6).toNat))) (dX6_advance 9) sC54 (h.2 c2).1 rfl (Z_bipush (dX6_advance 10) ⟨by decide, by decide⟩ (Z_icmp_eq (dX6_advance 11) rfl (fun c3 => (Z_aload_n (dX6_advance 19) rfl (Z_dup (dX6_advance 20) rfl (Z_gIC (x := (iv o0 6)) (dX6_advance 21) lk_X6_39 (Sh_sh h_o0) (Or.inl rfl) rfl (Z_iconst (dX6_advance 22) ⟨by decide, by decide⟩ (Z_iadd (dX6_advance 23) ((h.2 c2).2.1 c3).1 (Z_putIC (dX6_advance 24) lk_X6_39 (Sh_sh h_o0) rfl (Or.inl rfl) (Z_goto (dX6_advance 25) rfl ((h.2 c2).2.1 c3).2)))))))) (fun c4 => (Z_aload_n (dX6_advance 12) rfl (Z_gRC (r := (some 54)) (dX6_advance 13) lk_X6_25 (Sh_sh h_o0) rfl ht (Z_aload_n (dX6_advance 14) rfl (Z_gIC (x := (iv o0 6)) (dX6_advance 15) lk_X6_39 (Sh_sh h_o0) (Or.inl rfl) rfl (Z_blC (x := (iv 54 ((iv o0 6).toNat))) (dX6_advance 16) sC54 ((h.2 c2).2.2 c4).1 rfl (Z_bipush (dX6_advance 17) ⟨by decide, by decide⟩ (Z_icmp_ne (dX6_advance 18) rfl (fun c5 => (((h.2 c2).2.2 c4).2.1 c5)) (fun c6 => (Z_aload_n (dX6_advance 19) rfl (Z_dup (dX6_advance 20) rfl (Z_gIC (x := (iv o0 6)) (dX6_advance 21) lk_X6_39 (Sh_sh h_o0) (Or.inl rfl) rfl (Z_iconst (dX6_advance 22) ⟨by decide, by decide⟩ (Z_iadd (dX6_advance 23) (((h.2 c2).2.2 c4).2.2 c6).1 (Z_putIC (dX6_advance 24) lk_X6_39 (Sh_sh h_o0) rfl (Or.inl rfl) (Z_goto (dX6_advance 25) rfl (((h.2 c2).2.2 c4).2.2 c6).2)))))))))))))))))))))))))))))
set_option maxRecDepth 20000 in
theorem sX6_advance_52 {G : ZG} {d : Nat} {iv : Nat → Nat → Int} {K : Option AV → AH → Prop} {rv : Nat → Nat → Option Nat} {o0 : Nat} (hR : RC rv) (h_o0 : isSh o0) (ht : rv o0 4 = some 54) (h : ((iv o0 5) ≤ (iv o0 6) → (Z G mX6_advance d 0 0 88 [vr (some o0), vu] [] (mkC (iu (iu iv o0 8 (iv o0 6)) o0 9 0) rv) K)) ∧ ((iv o0 6) < (iv o0 5) → ((0 ≤ (iv o0 6) ∧ (iv o0 6) < (600 : Nat)) ∧ (Z G mX6_advance d 0 0 88 [vr (some o0), vu] [] (mkC (iu (iu iv o0 8 (iv o0 6)) o0 9 (iv 54 ((iv o0 6).toNat))) rv) K)))) : Z G mX6_advance d 0 0 52 [vr (some o0), vu] [] (mkC iv rv) K := (Z_aload_n (dX6_advance 26) rfl (Z_aload_n (dX6_advance 27) rfl (Z_gIC (x := (iv o0 6)) (dX6_advance 28) lk_X6_39 (Sh_sh h_o0) (Or.inl rfl) rfl (Z_putIC (dX6_advance 29) lk_X6_71 (Sh_sh h_o0) rfl (Or.inl rfl) (Z_aload_n (dX6_advance 30) rfl (Z_aload_n (dX6_advance 31) rfl (Z_gIC (x := (iv o0 6)) (dX6_advance 32) lk_X6_39 (Sh_sh h_o0) (Or.inl rfl) ((iu_k (by decide)).trans rfl) (Z_aload_n (dX6_advance 33) rfl (Z_gIC (x := (iv o0 5)) (dX6_advance 34) lk_X6_35 (Sh_sh h_o0) (Or.inl rfl) ((iu_k (by decide)).trans rfl) (Z_icmp_ge (dX6_advance 35) rfl (fun c1 => (Z_iconst (dX6_advance 42) ⟨by decide, by decide⟩ (Z_putIC (dX6_advance 43) lk_X6_74 (Sh_sh h_o0) rfl (Or.inl rfl) (h.1 c1)))) (fun c2 => (Z_aload_n (dX6_advance 36) rfl (Z_gRC (r := (some 54)) (dX6_advance 37) lk_X6_25 (Sh_sh h_o0) rfl ht (Z_aload_n (dX6_advance 38) rfl (Z_gIC (x := (iv o0 6)) (dX6_advance 39) lk_X6_39 (Sh_sh h_o0) (Or.inl rfl) ((iu_k (by decide)).trans rfl) (Z_blC (x := (iv 54 ((iv o0 6).toNat))) (dX6_advance 40) sC54 (h.2 c2).1 ((iu_o (by rcases h_o0 with rfl | rfl <;> decide)).trans rfl) (Z_goto (dX6_advance 41) rfl (Z_putIC (dX6_advance 43) lk_X6_74 (Sh_sh h_o0) rfl (Or.inl rfl) (h.2 c2).2))))))))))))))))))
set_option maxRecDepth 20000 in
theorem sX6_advance_88 {G : ZG} {d : Nat} {iv : Nat → Nat → Int} {K : Option AV → AH → Prop} {rv : Nat → Nat → Option Nat} {o0 : Nat} (hR : RC rv) (h_o0 : isSh o0) (ht : rv o0 4 = some 54) (h : ((iv o0 6) < (iv o0 5) → (((iv o0 9) < 97 → (Z G mX6_advance d 0 0 182 [vr (some o0), vu] [] (mkC iv rv) K)) ∧ (97 ≤ (iv o0 9) → ((122 < (iv o0 9) → (Z G mX6_advance d 0 0 182 [vr (some o0), vu] [] (mkC iv rv) K)) ∧ ((iv o0 9) ≤ 122 → (Z G mX6_advance d 0 0 130 [vr (some o0), vu] [] (mkC (iu iv o0 7 1) rv) K)))))) ∧ ((iv o0 5) ≤ (iv o0 6) → (K none (mkC (iu iv o0 7 0) rv)))) : Z G mX6_advance d 0 0 88 [vr (some o0), vu] [] (mkC iv rv) K := (Z_aload_n (dX6_advance 44) rfl (Z_gIC (x := (iv o0 6)) (dX6_advance 45) lk_X6_39 (Sh_sh h_o0) (Or.inl rfl) rfl (Z_aload_n (dX6_advance 46) rfl (Z_gIC (x := (iv o0 5)) (dX6_advance 47) lk_X6_35 (Sh_sh h_o0) (Or.inl rfl) rfl (Z_icmp_lt (dX6_advance 48) rfl (fun c1 => (Z_aload_n (dX6_advance 53) rfl (Z_gIC (x := (iv o0 9)) (dX6_advance 54) lk_X6_74 (Sh_sh h_o0) (Or.inl rfl) rfl (Z_bipush (dX6_advance 55) ⟨by decide, by decide⟩ (Z_icmp_lt (dX6_advance 56) rfl (fun c3 => ((h.1 c1).1 c3)) (fun c4 => (Z_aload_n (dX6_advance 57) rfl (Z_gIC (x := (iv o0 9)) (dX6_advance 58) lk_X6_74 (Sh_sh h_o0) (Or.inl rfl) rfl (Z_bipush (dX6_advance 59) ⟨by decide, by decide⟩ (Z_icmp_gt (dX6_advance 60) rfl (fun c5 => (((h.1 c1).2 c4).1 c5)) (fun c6 => (Z_aload_n (dX6_advance 61) rfl (Z_iconst (dX6_advance 62) ⟨by decide, by decide⟩ (Z_putIC (dX6_advance 63) lk_X6_65 (Sh_sh h_o0) rfl (Or.inl rfl) (((h.1 c1).2 c4).2 c6))))))))))))))) (fun c2 => (Z_aload_n (dX6_advance 49) rfl (Z_iconst (dX6_advance 50) ⟨by decide, by decide⟩ (Z_putIC (dX6_advance 51) lk_X6_65 (Sh_sh h_o0) rfl (Or.inl rfl) (Z_goto (dX6_advance 52) rfl (Z_return (dX6_advance 191) rfl (h.2 c2))))))))))))
set_option maxRecDepth 20000 in
theorem sX6_advance_130 {G : ZG} {d : Nat} {iv : Nat → Nat → Int} {K : Option AV → AH → Prop} {rv : Nat → Nat → Option Nat} {o0 : Nat} (hR : RC rv) (h_o0 : isSh o0) (ht : rv o0 4 = some 54) (h : ((iv o0 5) ≤ (iv o0 6) → (K none (mkC iv rv))) ∧ ((iv o0 6) < (iv o0 5) → ((0 ≤ (iv o0 6) ∧ (iv o0 6) < (600 : Nat)) ∧ (((iv 54 ((iv o0 6).toNat)) < 97 → (K none (mkC iv rv))) ∧ (97 ≤ (iv 54 ((iv o0 6).toNat)) → ((0 ≤ (iv o0 6) ∧ (iv o0 6) < (600 : Nat)) ∧ ((122 < (iv 54 ((iv o0 6).toNat)) → (K none (mkC iv rv))) ∧ ((iv 54 ((iv o0 6).toNat)) ≤ 122 → ((-2147483648 ≤ ((iv o0 6) + 1) ∧ ((iv o0 6) + 1) ≤ 2147483647) ∧ (Z G mX6_advance d 0 0 130 [vr (some o0), vu] [] (mkC (iu iv o0 6 ((iv o0 6) + 1)) rv) K)))))))))) : Z G mX6_advance d 0 0 130 [vr (some o0), vu] [] (mkC iv rv) K := (Z_aload_n (dX6_advance 64) rfl (Z_gIC (x := (iv o0 6)) (dX6_advance 65) lk_X6_39 (Sh_sh h_o0) (Or.inl rfl) rfl (Z_aload_n (dX6_advance 66) rfl (Z_gIC (x := (iv o0 5)) (dX6_advance 67) lk_X6_35 (Sh_sh h_o0) (Or.inl rfl) rfl (Z_icmp_ge (dX6_advance 68) rfl (fun c1 => (Z_return (dX6_advance 191) rfl (h.1 c1))) (fun c2 => (Z_aload_n (dX6_advance 69) rfl (Z_gRC (r := (some 54)) (dX6_advance 70) lk_X6_25 (Sh_sh h_o0) rfl ht (Z_aload_n (dX6_advance 71) rfl (Z_gIC (x := (iv o0 6)) (dX6_advance 72) lk_X6_39 (Sh_sh h_o0) (Or.inl rfl) rfl (Z_blC (x := (iv 54 ((iv o0 6).toNat))) (dX6_advance 73) sC54 (h.2 c2).1 rfl (Z_bipush (dX6_advance 74) ⟨by decide, by decide⟩ (Z_icmp_lt (dX6_advance 75) rfl (fun c3 => (Z_return (dX6_advance 191) rfl ((h.2 c2).2.1 c3))) (fun c4 => (Z_aload_n (dX6_advance 76) rfl (Z_gRC (r := (some 54)) (dX6_advance 77) lk_X6_25 (Sh_sh h_o0) rfl ht (Z_aload_n (dX6_advance 78) rfl (Z_gIC (x := (iv o0 6)) (dX6_advance 79) lk_X6_39 (Sh_sh h_o0) (Or.inl rfl) rfl (Z_blC (x := (iv 54 ((iv o0 6).toNat))) (dX6_advance 80) sC54 ((h.2 c2).2.2 c4).1 rfl (Z_bipush (dX6_advance 81) ⟨by decide, by decide⟩ (Z_icmp_gt (dX6_advance 82) rfl (fun c5 => (Z_return (dX6_advance 191) rfl (((h.2 c2).2.2 c4).2.1 c5))) (fun c6 => (Z_aload_n (dX6_advance 83) rfl (Z_dup (dX6_advance 84) rfl (Z_gIC (x := (iv o0 6)) (dX6_advance 85) lk_X6_39 (Sh_sh h_o0) (Or.inl rfl) rfl (Z_iconst (dX6_advance 86) ⟨by decide, by decide⟩ (Z_iadd (dX6_advance 87) (((h.2 c2).2.2 c4).2.2 c6).1 (Z_putIC (dX6_advance 88) lk_X6_39 (Sh_sh h_o0) rfl (Or.inl rfl) (Z_goto (dX6_advance 89) rfl (((h.2 c2).2.2 c4).2.2 c6).2)))))))))))))))))))))))))))))
set_option maxRecDepth 20000 in
theorem sX6_advance_182 {G : ZG} {d : Nat} {iv : Nat → Nat → Int} {K : Option AV → AH → Prop} {rv : Nat → Nat → Option Nat} {o0 : Nat} (hR : RC rv) (h_o0 : isSh o0) (ht : rv o0 4 = some 54) (h : ((iv o0 9) < 48 → (Z G mX6_advance d 0 0 306 [vr (some o0), vu] [] (mkC iv rv) K)) ∧ (48 ≤ (iv o0 9) → ((57 < (iv o0 9) → (Z G mX6_advance d 0 0 306 [vr (some o0), vu] [] (mkC iv rv) K)) ∧ ((iv o0 9) ≤ 57 → (Z G mX6_advance d 0 0 205 [vr (some o0), vu] [] (mkC (iu iv o0 9 0) rv) K))))) : Z G mX6_advance d 0 0 182 [vr (some o0), vu] [] (mkC iv rv) K := (Z_aload_n (dX6_advance 90) rfl (Z_gIC (x := (iv o0 9)) (dX6_advance 91) lk_X6_74 (Sh_sh h_o0) (Or.inl rfl) rfl (Z_bipush (dX6_advance 92) ⟨by decide, by decide⟩ (Z_icmp_lt (dX6_advance 93) rfl (fun c1 => (h.1 c1)) (fun c2 => (Z_aload_n (dX6_advance 94) rfl (Z_gIC (x := (iv o0 9)) (dX6_advance 95) lk_X6_74 (Sh_sh h_o0) (Or.inl rfl) rfl (Z_bipush (dX6_advance 96) ⟨by decide, by decide⟩ (Z_icmp_gt (dX6_advance 97) rfl (fun c3 => ((h.2 c2).1 c3)) (fun c4 => (Z_aload_n (dX6_advance 98) rfl (Z_iconst (dX6_advance 99) ⟨by decide, by decide⟩ (Z_putIC (dX6_advance 100) lk_X6_74 (Sh_sh h_o0) rfl (Or.inl rfl) ((h.2 c2).2 c4))))))))))))))
set_option maxRecDepth 20000 in
theorem sX6_advance_205 {G : ZG} {d : Nat} {iv : Nat → Nat → Int} {K : Option AV → AH → Prop} {rv : Nat → Nat → Option Nat} {o0 : Nat} (hR : RC rv) (h_o0 : isSh o0) (ht : rv o0 4 = some 54) (h : ((iv o0 5) ≤ (iv o0 6) → (Z G mX6_advance d 0 0 281 [vr (some o0), vu] [] (mkC iv rv) K)) ∧ ((iv o0 6) < (iv o0 5) → ((0 ≤ (iv o0 6) ∧ (iv o0 6) < (600 : Nat)) ∧ (((iv 54 ((iv o0 6).toNat)) < 48 → (Z G mX6_advance d 0 0 281 [vr (some o0), vu] [] (mkC iv rv) K)) ∧ (48 ≤ (iv 54 ((iv o0 6).toNat)) → ((0 ≤ (iv o0 6) ∧ (iv o0 6) < (600 : Nat)) ∧ ((57 < (iv 54 ((iv o0 6).toNat)) → (Z G mX6_advance d 0 0 281 [vr (some o0), vu] [] (mkC iv rv) K)) ∧ ((iv 54 ((iv o0 6).toNat)) ≤ 57 → ((0 ≤ (iv o0 6) ∧ (iv o0 6) < (600 : Nat)) ∧ ((-2147483648 ≤ ((iv o0 6) + 1) ∧ ((iv o0 6) + 1) ≤ 2147483647) ∧ (Z G mX6_advance d 0 0 205 [vr (some o0), vu] [] (mkC (iu (iu iv o0 9 (w32 ((w32 ((w32 ((iv o0 9) * 10)) + (iv 54 ((iv o0 6).toNat)))) - 48))) o0 6 ((iv o0 6) + 1)) rv) K))))))))))) : Z G mX6_advance d 0 0 205 [vr (some o0), vu] [] (mkC iv rv) K := (Z_aload_n (dX6_advance 101) rfl (Z_gIC (x := (iv o0 6)) (dX6_advance 102) lk_X6_39 (Sh_sh h_o0) (Or.inl rfl) rfl (Z_aload_n (dX6_advance 103) rfl (Z_gIC (x := (iv o0 5)) (dX6_advance 104) lk_X6_35 (Sh_sh h_o0) (Or.inl rfl) rfl (Z_icmp_ge (dX6_advance 105) rfl (fun c1 => (h.1 c1)) (fun c2 => (Z_aload_n (dX6_advance 106) rfl (Z_gRC (r := (some 54)) (dX6_advance 107) lk_X6_25 (Sh_sh h_o0) rfl ht (Z_aload_n (dX6_advance 108) rfl (Z_gIC (x := (iv o0 6)) (dX6_advance 109) lk_X6_39 (Sh_sh h_o0) (Or.inl rfl) rfl (Z_blC (x := (iv 54 ((iv o0 6).toNat))) (dX6_advance 110) sC54 (h.2 c2).1 rfl (Z_bipush (dX6_advance 111) ⟨by decide, by decide⟩ (Z_icmp_lt (dX6_advance 112) rfl (fun c3 => ((h.2 c2).2.1 c3)) (fun c4 => (Z_aload_n (dX6_advance 113) rfl (Z_gRC (r := (some 54)) (dX6_advance 114) lk_X6_25 (Sh_sh h_o0) rfl ht (Z_aload_n (dX6_advance 115) rfl (Z_gIC (x := (iv o0 6)) (dX6_advance 116) lk_X6_39 (Sh_sh h_o0) (Or.inl rfl) rfl (Z_blC (x := (iv 54 ((iv o0 6).toNat))) (dX6_advance 117) sC54 ((h.2 c2).2.2 c4).1 rfl (Z_bipush (dX6_advance 118) ⟨by decide, by decide⟩ (Z_icmp_gt (dX6_advance 119) rfl (fun c5 => (((h.2 c2).2.2 c4).2.1 c5)) (fun c6 => (Z_aload_n (dX6_advance 120) rfl (Z_aload_n (dX6_advance 121) rfl (Z_gIC (x := (iv o0 9)) (dX6_advance 122) lk_X6_74 (Sh_sh h_o0) (Or.inl rfl) rfl (Z_bipush (dX6_advance 123) ⟨by decide, by decide⟩ (Z_imulW (dX6_advance 124) (Z_aload_n (dX6_advance 125) rfl (Z_gRC (r := (some 54)) (dX6_advance 126) lk_X6_25 (Sh_sh h_o0) rfl ht (Z_aload_n (dX6_advance 127) rfl (Z_gIC (x := (iv o0 6)) (dX6_advance 128) lk_X6_39 (Sh_sh h_o0) (Or.inl rfl) rfl (Z_blC (x := (iv 54 ((iv o0 6).toNat))) (dX6_advance 129) sC54 (((h.2 c2).2.2 c4).2.2 c6).1 rfl (Z_iaddW (dX6_advance 130) (Z_bipush (dX6_advance 131) ⟨by decide, by decide⟩ (Z_isubW (dX6_advance 132) (Z_putIC (dX6_advance 133) lk_X6_74 (Sh_sh h_o0) rfl (Or.inl rfl) (Z_aload_n (dX6_advance 134) rfl (Z_dup (dX6_advance 135) rfl (Z_gIC (x := (iv o0 6)) (dX6_advance 136) lk_X6_39 (Sh_sh h_o0) (Or.inl rfl) ((iu_k (by decide)).trans rfl) (Z_iconst (dX6_advance 137) ⟨by decide, by decide⟩ (Z_iadd (dX6_advance 138) (((h.2 c2).2.2 c4).2.2 c6).2.1 (Z_putIC (dX6_advance 139) lk_X6_39 (Sh_sh h_o0) rfl (Or.inl rfl) (Z_goto (dX6_advance 140) rfl (((h.2 c2).2.2 c4).2.2 c6).2.2)))))))))))))))))))))))))))))))))))))))))))
set_option maxRecDepth 20000 in
theorem sX6_advance_281 {G : ZG} {d : Nat} {iv : Nat → Nat → Int} {K : Option AV → AH → Prop} {rv : Nat → Nat → Option Nat} {o0 : Nat} (hR : RC rv) (h_o0 : isSh o0) (ht : rv o0 4 = some 54) (h : (-2147483648 ≤ ((iv o0 6) - (iv o0 8)) ∧ ((iv o0 6) - (iv o0 8)) ≤ 2147483647) ∧ ((((iv o0 6) - (iv o0 8)) ≤ 4 → (K none (mkC (iu iv o0 7 2) rv))) ∧ (4 < ((iv o0 6) - (iv o0 8)) → (K none (mkC (iu iv o0 7 4) rv))))) : Z G mX6_advance d 0 0 281 [vr (some o0), vu] [] (mkC iv rv) K := (Z_aload_n (dX6_advance 141) rfl (Z_aload_n (dX6_advance 142) rfl (Z_gIC (x := (iv o0 6)) (dX6_advance 143) lk_X6_39 (Sh_sh h_o0) (Or.inl rfl) rfl (Z_aload_n (dX6_advance 144) rfl (Z_gIC (x := (iv o0 8)) (dX6_advance 145) lk_X6_71 (Sh_sh h_o0) (Or.inl rfl) rfl (Z_isub (dX6_advance 146) h.1 (Z_iconst (dX6_advance 147) ⟨by decide, by decide⟩ (Z_icmp_le (dX6_advance 148) rfl (fun c1 => (Z_iconst (dX6_advance 151) ⟨by decide, by decide⟩ (Z_putIC (dX6_advance 152) lk_X6_65 (Sh_sh h_o0) rfl (Or.inl rfl) (Z_goto (dX6_advance 153) rfl (Z_return (dX6_advance 191) rfl (h.2.1 c1)))))) (fun c2 => (Z_iconst (dX6_advance 149) ⟨by decide, by decide⟩ (Z_goto (dX6_advance 150) rfl (Z_putIC (dX6_advance 152) lk_X6_65 (Sh_sh h_o0) rfl (Or.inl rfl) (Z_goto (dX6_advance 153) rfl (Z_return (dX6_advance 191) rfl (h.2.2 c2)))))))))))))))
set_option maxRecDepth 20000 in
theorem sX6_advance_306 {G : ZG} {d : Nat} {iv : Nat → Nat → Int} {K : Option AV → AH → Prop} {rv : Nat → Nat → Option Nat} {o0 : Nat} (hR : RC rv) (h_o0 : isSh o0) (ht : rv o0 4 = some 54) (h : (-2147483648 ≤ ((iv o0 6) + 1) ∧ ((iv o0 6) + 1) ≤ 2147483647) ∧ (((iv o0 9) = 123 → (K none (mkC (iu (iu iv o0 6 ((iv o0 6) + 1)) o0 7 3) rv))) ∧ (¬ (iv o0 9) = 123 → (((iv o0 9) = 125 → (K none (mkC (iu (iu iv o0 6 ((iv o0 6) + 1)) o0 7 3) rv))) ∧ (¬ (iv o0 9) = 125 → (((iv o0 9) = 59 → (K none (mkC (iu (iu iv o0 6 ((iv o0 6) + 1)) o0 7 3) rv))) ∧ (¬ (iv o0 9) = 59 → (((iv o0 9) = 60 → (K none (mkC (iu (iu iv o0 6 ((iv o0 6) + 1)) o0 7 3) rv))) ∧ (¬ (iv o0 9) = 60 → ((¬ (iv o0 9) = 62 → (K none (mkC (iu (iu iv o0 6 ((iv o0 6) + 1)) o0 7 4) rv))) ∧ ((iv o0 9) = 62 → (K none (mkC (iu (iu iv o0 6 ((iv o0 6) + 1)) o0 7 3) rv))))))))))))) : Z G mX6_advance d 0 0 306 [vr (some o0), vu] [] (mkC iv rv) K := (Z_aload_n (dX6_advance 154) rfl (Z_dup (dX6_advance 155) rfl (Z_gIC (x := (iv o0 6)) (dX6_advance 156) lk_X6_39 (Sh_sh h_o0) (Or.inl rfl) rfl (Z_iconst (dX6_advance 157) ⟨by decide, by decide⟩ (Z_iadd (dX6_advance 158) h.1 (Z_putIC (dX6_advance 159) lk_X6_39 (Sh_sh h_o0) rfl (Or.inl rfl) (Z_aload_n (dX6_advance 160) rfl (Z_gIC (x := (iv o0 9)) (dX6_advance 161) lk_X6_74 (Sh_sh h_o0) (Or.inl rfl) ((iu_k (by decide)).trans rfl) (Z_bipush (dX6_advance 162) ⟨by decide, by decide⟩ (Z_icmp_eq (dX6_advance 163) rfl (fun c1 => (Z_iconst (dX6_advance 180) ⟨by decide, by decide⟩ (Z_goto (dX6_advance 181) rfl (Z_istore_n (dX6_advance 183) (Nat.le_of_ble_eq_true rfl) rfl (Z_aload_n (dX6_advance 184) rfl (Z_iload_n (dX6_advance 185) rfl (Z_if_eq (dX6_advance 186) rfl (fun c3 => absurd c3 (by decide)) (fun _ => (Z_iconst (dX6_advance 187) ⟨by decide, by decide⟩ (Z_goto (dX6_advance 188) rfl (Z_putIC (dX6_advance 190) lk_X6_65 (Sh_sh h_o0) rfl (Or.inl rfl) (Z_return (dX6_advance 191) rfl (h.2.1 c1))))))))))))) (fun c2 => (Z_aload_n (dX6_advance 164) rfl (Z_gIC (x := (iv o0 9)) (dX6_advance 165) lk_X6_74 (Sh_sh h_o0) (Or.inl rfl) ((iu_k (by decide)).trans rfl) (Z_bipush (dX6_advance 166) ⟨by decide, by decide⟩ (Z_icmp_eq (dX6_advance 167) rfl (fun c4 => (Z_iconst (dX6_advance 180) ⟨by decide, by decide⟩ (Z_goto (dX6_advance 181) rfl (Z_istore_n (dX6_advance 183) (Nat.le_of_ble_eq_true rfl) rfl (Z_aload_n (dX6_advance 184) rfl (Z_iload_n (dX6_advance 185) rfl (Z_if_eq (dX6_advance 186) rfl (fun c6 => absurd c6 (by decide)) (fun _ => (Z_iconst (dX6_advance 187) ⟨by decide, by decide⟩ (Z_goto (dX6_advance 188) rfl (Z_putIC (dX6_advance 190) lk_X6_65 (Sh_sh h_o0) rfl (Or.inl rfl) (Z_return (dX6_advance 191) rfl ((h.2.2 c2).1 c4))))))))))))) (fun c5 => (Z_aload_n (dX6_advance 168) rfl (Z_gIC (x := (iv o0 9)) (dX6_advance 169) lk_X6_74 (Sh_sh h_o0) (Or.inl rfl) ((iu_k (by decide)).trans rfl) (Z_bipush (dX6_advance 170) ⟨by decide, by decide⟩ (Z_icmp_eq (dX6_advance 171) rfl (fun c7 => (Z_iconst (dX6_advance 180) ⟨by decide, by decide⟩ (Z_goto (dX6_advance 181) rfl (Z_istore_n (dX6_advance 183) (Nat.le_of_ble_eq_true rfl) rfl (Z_aload_n (dX6_advance 184) rfl (Z_iload_n (dX6_advance 185) rfl (Z_if_eq (dX6_advance 186) rfl (fun c9 => absurd c9 (by decide)) (fun _ => (Z_iconst (dX6_advance 187) ⟨by decide, by decide⟩ (Z_goto (dX6_advance 188) rfl (Z_putIC (dX6_advance 190) lk_X6_65 (Sh_sh h_o0) rfl (Or.inl rfl) (Z_return (dX6_advance 191) rfl (((h.2.2 c2).2 c5).1 c7))))))))))))) (fun c8 => (Z_aload_n (dX6_advance 172) rfl (Z_gIC (x := (iv o0 9)) (dX6_advance 173) lk_X6_74 (Sh_sh h_o0) (Or.inl rfl) ((iu_k (by decide)).trans rfl) (Z_bipush (dX6_advance 174) ⟨by decide, by decide⟩ (Z_icmp_eq (dX6_advance 175) rfl (fun c10 => (Z_iconst (dX6_advance 180) ⟨by decide, by decide⟩ (Z_goto (dX6_advance 181) rfl (Z_istore_n (dX6_advance 183) (Nat.le_of_ble_eq_true rfl) rfl (Z_aload_n (dX6_advance 184) rfl (Z_iload_n (dX6_advance 185) rfl (Z_if_eq (dX6_advance 186) rfl (fun c12 => absurd c12 (by decide)) (fun _ => (Z_iconst (dX6_advance 187) ⟨by decide, by decide⟩ (Z_goto (dX6_advance 188) rfl (Z_putIC (dX6_advance 190) lk_X6_65 (Sh_sh h_o0) rfl (Or.inl rfl) (Z_return (dX6_advance 191) rfl ((((h.2.2 c2).2 c5).2 c8).1 c10))))))))))))) (fun c11 => (Z_aload_n (dX6_advance 176) rfl (Z_gIC (x := (iv o0 9)) (dX6_advance 177) lk_X6_74 (Sh_sh h_o0) (Or.inl rfl) ((iu_k (by decide)).trans rfl) (Z_bipush (dX6_advance 178) ⟨by decide, by decide⟩ (Z_icmp_ne (dX6_advance 179) rfl (fun c13 => (Z_iconst (dX6_advance 182) ⟨by decide, by decide⟩ (Z_istore_n (dX6_advance 183) (Nat.le_of_ble_eq_true rfl) rfl (Z_aload_n (dX6_advance 184) rfl (Z_iload_n (dX6_advance 185) rfl (Z_if_eq (dX6_advance 186) rfl (fun _ => (Z_iconst (dX6_advance 189) ⟨by decide, by decide⟩ (Z_putIC (dX6_advance 190) lk_X6_65 (Sh_sh h_o0) rfl (Or.inl rfl) (Z_return (dX6_advance 191) rfl (((((h.2.2 c2).2 c5).2 c8).2 c11).1 c13))))) (fun c15 => absurd c15 (by decide)))))))) (fun c14 => (Z_iconst (dX6_advance 180) ⟨by decide, by decide⟩ (Z_goto (dX6_advance 181) rfl (Z_istore_n (dX6_advance 183) (Nat.le_of_ble_eq_true rfl) rfl (Z_aload_n (dX6_advance 184) rfl (Z_iload_n (dX6_advance 185) rfl (Z_if_eq (dX6_advance 186) rfl (fun c16 => absurd c16 (by decide)) (fun _ => (Z_iconst (dX6_advance 187) ⟨by decide, by decide⟩ (Z_goto (dX6_advance 188) rfl (Z_putIC (dX6_advance 190) lk_X6_65 (Sh_sh h_o0) rfl (Or.inl rfl) (Z_return (dX6_advance 191) rfl (((((h.2.2 c2).2 c5).2 c8).2 c11).2 c14)))))))))))))))))))))))))))))))))))))))))))
/-- the class's token in the model's words -/
def tkm (c : Int) : Int := if c = 0 then 0 else if c = 1 then 2 else if c = 2 then 3 else if c = 3 then 4 else 1
def aF (iv v : Nat → Nat → Int) (o : Nat) : Prop := ∀ i j, ¬ (i = o ∧ (j = 6 ∨ j = 7 ∨ j = 8 ∨ j = 9)) → v i j = iv i j
def tkC (iv v : Nat → Nat → Int) (o : Nat) : Prop := v o 8 = tkA (iv 54) (iv o 5) (iv o 6) ∧ v o 6 = tkE (iv 54) (iv o 5) (v o 8) ∧ tkm (v o 7) = tkT (iv 54) (iv o 5) (v o 8) ∧ (0 ≤ v o 7 ∧ v o 7 ≤ 4) ∧ ((v o 7 = 2 ∨ v o 7 = 3) → v o 9 = tkV (iv 54) (iv o 5) (v o 8))
theorem aF_u {iv v : Nat → Nat → Int} {o j : Nat} {x : Int} (f : aF iv v o) (h : j = 6 ∨ j = 7 ∨ j = 8 ∨ j = 9) : aF iv (iu v o j x) o := by
  intro i q c
  rw [iu_ap, if_neg (fun z => c ⟨z.1, by rw [z.2]; exact h⟩)]
  exact f i q c
theorem mdv_b {b : Nat → Int} {a : Int} : ∀ k : Nat, k ≤ 4 → (∀ j : Int, a ≤ j → j < a + k → isDg (b j.toNat) = true) → 0 ≤ mdv b a k ∧ (mdv b a k < (10 : Int) ^ k)
  | 0, _, _ => by unfold mdv; decide
  | k + 1, hk, hd => by
    have ih := mdv_b (b := b) (a := a) k (by omega) (fun j p q => hd j p (by omega))
    have d := hd (a + k) (by omega) (by omega)
    unfold isDg at d
    rw [decide_eq_true_iff] at d
    unfold mdv
    have c : k = 0 ∨ k = 1 ∨ k = 2 ∨ k = 3 := by omega
    rcases c with e | e | e | e <;> subst e
    · rw [show (10 : Int) ^ 0 = 1 from rfl] at ih; rw [show (10 : Int) ^ (0 + 1) = 10 from rfl]; omega
    · rw [show (10 : Int) ^ 1 = 10 from rfl] at ih; rw [show (10 : Int) ^ (1 + 1) = 100 from rfl]; omega
    · rw [show (10 : Int) ^ 2 = 100 from rfl] at ih; rw [show (10 : Int) ^ (2 + 1) = 1000 from rfl]; omega
    · rw [show (10 : Int) ^ 3 = 1000 from rfl] at ih; rw [show (10 : Int) ^ (3 + 1) = 10000 from rfl]; omega
theorem mdv_9 {b : Nat → Int} {a : Int} {k : Nat} (hk : k ≤ 4) (hd : ∀ j : Int, a ≤ j → j < a + k → isDg (b j.toNat) = true) : 0 ≤ mdv b a k ∧ mdv b a k ≤ 9999 := by
  have h := mdv_b k hk hd
  have c : k = 0 ∨ k = 1 ∨ k = 2 ∨ k = 3 ∨ k = 4 := by omega
  rcases c with e | e | e | e | e <;> subst e
  · rw [show (10 : Int) ^ 0 = 1 from rfl] at h; omega
  · rw [show (10 : Int) ^ 1 = 10 from rfl] at h; omega
  · rw [show (10 : Int) ^ 2 = 100 from rfl] at h; omega
  · rw [show (10 : Int) ^ 3 = 1000 from rfl] at h; omega
  · rw [show (10 : Int) ^ 4 = 10000 from rfl] at h; omega
theorem C_advance {G : ZG} {d : Nat} {iv : Nat → Nat → Int} {K : Option AV → AH → Prop} {rv : Nat → Nat → Option Nat} {o0 : Nat} (hR : RC rv) (ho : isSh o0) (ht : rv o0 4 = some 54) (hp : 0 ≤ iv o0 6 ∧ iv o0 6 ≤ iv o0 5) (hn : iv o0 5 ≤ 600) (hb : bOK (iv 54)) (k : ∀ v : Nat → Nat → Int, aF iv v o0 ∧ tkC iv v o0 → K none (mkC v rv)) : Z G mX6_advance d 0 0 0 [vr (some o0), vu] [] (mkC iv rv) K := by
  have n54 : (54 : Nat) ≠ o0 := by rcases ho with e | e <;> subst e <;> decide
  have fb : ∀ v, aF iv v o0 → v 54 = iv 54 ∧ v o0 5 = iv o0 5 := fun v f => ⟨funext fun j => f 54 j (fun z => n54 z.1), f o0 5 (by omega)⟩
  have rA := (scN_r (P := isSp) (b := iv 54) hp.2).1
  have eA : tkA (iv 54) (iv o0 5) (iv o0 6) = scN isSp (iv 54) (iv o0 5) (iv o0 6) := rfl
  rw [← eA] at rA
  unfold tkC at k
  generalize hA : tkA (iv 54) (iv o0 5) (iv o0 6) = a at *
  have fin : ∀ v, aF iv v o0 → v o0 8 = a → v o0 6 = tkE (iv 54) (iv o0 5) a → tkm (v o0 7) = tkT (iv 54) (iv o0 5) a → (0 ≤ v o0 7 ∧ v o0 7 ≤ 4) → ((v o0 7 = 2 ∨ v o0 7 = 3) → v o0 9 = tkV (iv 54) (iv o0 5) a) → K none (mkC v rv) := fun v f e8 e6 e7 r7 e9 => k v ⟨f, e8, by rw [e8]; exact e6, by rw [e8]; exact e7, r7, by rw [e8]; exact e9⟩
  clear k
  have tok : ∀ v, aF iv v o0 → v o0 6 = a → Z G mX6_advance d 0 0 52 [vr (some o0), vu] [] (mkC v rv) K := by
    intro v f e6
    obtain ⟨e54, e5⟩ := fb v f
    apply sX6_advance_52 hR ho ht
    rw [e54, e5, e6]
    refine ⟨fun an => ?_, fun an => ⟨by omega, ?_⟩⟩
    · apply sX6_advance_88 hR ho ht
      have q6 : iu (iu v o0 8 a) o0 9 0 o0 6 = a := by rw [iu_k (by decide), iu_k (by decide)]; exact e6
      have q5 : iu (iu v o0 8 a) o0 9 0 o0 5 = iv o0 5 := by rw [iu_k (by decide), iu_k (by decide)]; exact e5
      rw [q6, q5]
      refine ⟨fun z => by omega, fun _ => fin _ (aF_u (aF_u (aF_u f (by omega)) (by omega)) (by omega)) ?_ ?_ ?_ ?_ ?_⟩
      · rw [iu_k (by decide), iu_k (by decide)]; exact iu_eq
      · rw [iu_k (by decide), q6]; unfold tkE; rw [if_pos an]
      · rw [iu_eq]; unfold tkT; rw [if_pos an]; rfl
      · rw [iu_eq]; omega
      · rw [iu_eq]; intro z; omega
    · generalize hw : iu (iu v o0 8 a) o0 9 (iv 54 a.toNat) = w
      have fw : aF iv w o0 := by rw [← hw]; exact aF_u (aF_u f (by omega)) (by omega)
      obtain ⟨w54, w5⟩ := fb w fw
      have w6 : w o0 6 = a := by rw [← hw, iu_k (by decide), iu_k (by decide)]; exact e6
      have w8 : w o0 8 = a := by rw [← hw, iu_k (by decide)]; exact iu_eq
      have w9 : w o0 9 = iv 54 a.toNat := by rw [← hw]; exact iu_eq
      have ba := hb a (by omega) (by omega)
      have lt : isLt (iv 54 a.toNat) = true ↔ (97 ≤ iv 54 a.toNat ∧ iv 54 a.toNat ≤ 122) := by unfold isLt; rw [decide_eq_true_iff]
      have dg : isDg (iv 54 a.toNat) = true ↔ (48 ≤ iv 54 a.toNat ∧ iv 54 a.toNat ≤ 57) := by unfold isDg; rw [decide_eq_true_iff]
      have sg : isSg (iv 54 a.toNat) = true ↔ (iv 54 a.toNat = 123 ∨ iv 54 a.toNat = 125 ∨ iv 54 a.toNat = 59 ∨ iv 54 a.toNat = 60 ∨ iv 54 a.toNat = 62) := by unfold isSg; rw [decide_eq_true_iff]
      have other : ¬ isLt (iv 54 a.toNat) = true → Z G mX6_advance d 0 0 182 [vr (some o0), vu] [] (mkC w rv) K := by
        intro nl
        have sign : ¬ isDg (iv 54 a.toNat) = true → Z G mX6_advance d 0 0 306 [vr (some o0), vu] [] (mkC w rv) K := by
          intro nd
          have E : tkE (iv 54) (iv o0 5) a = a + 1 := by unfold tkE; rw [if_neg (by omega), if_neg nl, if_neg nd]
          have V : tkV (iv 54) (iv o0 5) a = iv 54 a.toNat % 256 := by unfold tkV; rw [if_neg (by omega), if_neg nd]
          have T : tkT (iv 54) (iv o0 5) a = if isSg (iv 54 a.toNat) = true then 4 else 1 := by unfold tkT; rw [if_neg (by omega), if_neg nl, if_neg nd]
          have ys : isSg (iv 54 a.toNat) = true → K none (mkC (iu (iu w o0 6 (a + 1)) o0 7 3) rv) := fun c => by
            refine fin _ (aF_u (aF_u fw (by omega)) (by omega)) ?_ ?_ ?_ ?_ ?_
            · rw [iu_k (by decide), iu_k (by decide)]; exact w8
            · rw [iu_k (by decide), iu_eq, E]
            · rw [iu_eq, T, if_pos c]; rfl
            · rw [iu_eq]; omega
            · intro _; rw [iu_k (by decide), iu_k (by decide), w9, V]; rw [sg] at c; omega
          have no : ¬ isSg (iv 54 a.toNat) = true → K none (mkC (iu (iu w o0 6 (a + 1)) o0 7 4) rv) := fun c => by
            refine fin _ (aF_u (aF_u fw (by omega)) (by omega)) ?_ ?_ ?_ ?_ ?_
            · rw [iu_k (by decide), iu_k (by decide)]; exact w8
            · rw [iu_k (by decide), iu_eq, E]
            · rw [iu_eq, T, if_neg c]; rfl
            · rw [iu_eq]; omega
            · rw [iu_eq]; intro z; omega
          apply sX6_advance_306 hR ho ht
          rw [w6, w9]
          exact ⟨by omega, fun c => ys (sg.mpr (by omega)), fun c1 => ⟨fun c => ys (sg.mpr (by omega)), fun c2 => ⟨fun c => ys (sg.mpr (by omega)), fun c3 => ⟨fun c => ys (sg.mpr (by omega)), fun c4 => ⟨fun c => no (fun z => by rw [sg] at z; omega), fun c => ys (sg.mpr (by omega))⟩⟩⟩⟩⟩
        apply sX6_advance_182 hR ho ht
        rw [w9]
        refine ⟨fun c => sign (by rw [dg]; omega), fun c => ⟨fun c2 => sign (by rw [dg]; omega), fun c2 => ?_⟩⟩
        have yd : isDg (iv 54 a.toNat) = true := dg.mpr ⟨c, c2⟩
        have rE := scN_r (P := isDg) (b := iv 54) (n := iv o0 5) (p := a) (by omega)
        have E : tkE (iv 54) (iv o0 5) a = scN isDg (iv 54) (iv o0 5) a := by unfold tkE; rw [if_neg (by omega), if_neg nl, if_pos yd]
        have V : tkV (iv 54) (iv o0 5) a = mdv (iv 54) a (scN isDg (iv 54) (iv o0 5) a - a).toNat := by unfold tkV; rw [if_neg (by omega), if_pos yd]
        have T : tkT (iv 54) (iv o0 5) a = if 4 < scN isDg (iv 54) (iv o0 5) a - a then 1 else 3 := by unfold tkT; rw [if_neg (by omega), if_neg nl, if_pos yd]
        refine lp_m (P := fun u => Z G mX6_advance d 0 0 205 [vr (some o0), vu] [] (mkC u rv) K) (fun u => (iv o0 5 - u o0 6).toNat) (fun u => aF iv u o0 ∧ (a ≤ u o0 6 ∧ u o0 6 ≤ iv o0 5) ∧ scN isDg (iv 54) (iv o0 5) (u o0 6) = scN isDg (iv 54) (iv o0 5) a ∧ u o0 8 = a ∧ (u o0 6 - a ≤ 4 → u o0 9 = mdv (iv 54) a (u o0 6 - a).toNat)) ?_ _ ⟨aF_u fw (by omega), ?_, ?_, ?_, ?_⟩
        · rintro u ⟨fu, ru, su, u8, u9⟩ ih
          obtain ⟨u54, u5⟩ := fb u fu
          have bq := hb (u o0 6)
          have done : ¬ (u o0 6 < iv o0 5 ∧ isDg (iv 54 (u o0 6).toNat) = true) → Z G mX6_advance d 0 0 281 [vr (some o0), vu] [] (mkC u rv) K := by
            intro c
            rw [scN_f c] at su
            apply sX6_advance_281 hR ho ht
            rw [u8]
            refine ⟨by omega, fun q => ?_, fun q => ?_⟩
            · refine fin _ (aF_u fu (by omega)) ?_ ?_ ?_ ?_ ?_
              · rw [iu_k (by decide)]; exact u8
              · rw [iu_k (by decide), E, ← su]
              · rw [iu_eq, T, ← su, if_neg (by omega)]; rfl
              · rw [iu_eq]; omega
              · intro _; rw [iu_k (by decide), V, ← su]; exact u9 q
            · refine fin _ (aF_u fu (by omega)) ?_ ?_ ?_ ?_ ?_
              · rw [iu_k (by decide)]; exact u8
              · rw [iu_k (by decide), E, ← su]
              · rw [iu_eq, T, ← su, if_pos (by omega)]; rfl
              · rw [iu_eq]; omega
              · rw [iu_eq]; intro z; omega
          apply sX6_advance_205 hR ho ht
          rw [u54, u5]
          refine ⟨fun c => done (fun z => by omega), fun c => ⟨by omega, fun c1 => done (fun z => by have := z.2; unfold isDg at this; rw [decide_eq_true_iff] at this; omega), fun c1 => ⟨by omega, fun c2 => done (fun z => by have := z.2; unfold isDg at this; rw [decide_eq_true_iff] at this; omega), fun c2 => ⟨by omega, by omega, ?_⟩⟩⟩⟩
          have yq : isDg (iv 54 (u o0 6).toNat) = true := by unfold isDg; rw [decide_eq_true_iff]; omega
          refine ih _ ⟨aF_u (aF_u fu (by omega)) (by omega), ?_, ?_, ?_, ?_⟩ ?_
          · rw [iu_eq]; omega
          · rw [iu_eq, ← scN_t c yq]; exact su
          · rw [iu_k (by decide), iu_k (by decide)]; exact u8
          · rw [iu_eq, iu_k (by decide), iu_eq]
            intro z
            have h9 := u9 (by omega)
            have al : ∀ j : Int, a ≤ j → j < a + ((u o0 6 - a).toNat : Int) → isDg (iv 54 j.toNat) = true := fun j p q => rE.2 j p (by
              have := (scN_r (P := isDg) (b := iv 54) (n := iv o0 5) (p := u o0 6) ru.2).1
              rw [su] at this
              omega)
            have m9 := mdv_9 (b := iv 54) (a := a) (k := (u o0 6 - a).toNat) (by omega) al
            rw [h9, show (u o0 6 + 1 - a).toNat = (u o0 6 - a).toNat + 1 by omega]
            generalize hM : mdv (iv 54) a (u o0 6 - a).toNat = M at m9
            rw [w32_id (x := M * 10) (by omega), w32_id (x := M * 10 + iv 54 (u o0 6).toNat) (by omega), w32_id (by omega), ← hM]
            rw [← hM] at m9
            conv => rhs; unfold mdv
            rw [show (a + (((u o0 6 - a).toNat : Nat) : Int)).toNat = (u o0 6).toNat by omega]
            omega
          · rw [iu_eq]; omega
        · rw [iu_k (by decide), w6]; omega
        · rw [iu_k (by decide), w6]
        · rw [iu_k (by decide)]; exact w8
        · intro _; rw [iu_eq, iu_k (by decide), w6, Int.sub_self]; rfl
      apply sX6_advance_88 hR ho ht
      rw [w6, w5, w9]
      refine ⟨fun _ => ⟨fun c => other (by rw [lt]; omega), fun c => ⟨fun c2 => other (by rw [lt]; omega), fun c2 => ?_⟩⟩, fun z => by omega⟩
      have yl : isLt (iv 54 a.toNat) = true := lt.mpr ⟨c, c2⟩
      have E : tkE (iv 54) (iv o0 5) a = scN isLt (iv 54) (iv o0 5) a := by unfold tkE; rw [if_neg (by omega), if_pos yl]
      have T : tkT (iv 54) (iv o0 5) a = 2 := by unfold tkT; rw [if_neg (by omega), if_pos yl]
      refine lp_m (P := fun u => Z G mX6_advance d 0 0 130 [vr (some o0), vu] [] (mkC u rv) K) (fun u => (iv o0 5 - u o0 6).toNat) (fun u => aF iv u o0 ∧ (a ≤ u o0 6 ∧ u o0 6 ≤ iv o0 5) ∧ scN isLt (iv 54) (iv o0 5) (u o0 6) = scN isLt (iv 54) (iv o0 5) a ∧ u o0 8 = a ∧ u o0 7 = 1) ?_ _ ⟨aF_u fw (by omega), ?_, ?_, ?_, iu_eq⟩
      · rintro u ⟨fu, ru, su, u8, u7⟩ ih
        obtain ⟨u54, u5⟩ := fb u fu
        have bq := hb (u o0 6)
        have done : ¬ (u o0 6 < iv o0 5 ∧ isLt (iv 54 (u o0 6).toNat) = true) → K none (mkC u rv) := by
          intro c
          rw [scN_f c] at su
          exact fin _ fu u8 (by rw [E, ← su]) (by rw [u7, T]; rfl) (by omega) (fun z => by omega)
        apply sX6_advance_130 hR ho ht
        rw [u54, u5]
        refine ⟨fun c => done (fun z => by omega), fun c => ⟨by omega, fun c1 => done (fun z => by have := z.2; unfold isLt at this; rw [decide_eq_true_iff] at this; omega), fun c1 => ⟨by omega, fun c2 => done (fun z => by have := z.2; unfold isLt at this; rw [decide_eq_true_iff] at this; omega), fun c2 => ⟨by omega, ?_⟩⟩⟩⟩
        have yq : isLt (iv 54 (u o0 6).toNat) = true := by unfold isLt; rw [decide_eq_true_iff]; omega
        refine ih _ ⟨aF_u fu (by omega), ?_, ?_, ?_, ?_⟩ ?_
        · rw [iu_eq]; omega
        · rw [iu_eq, ← scN_t c yq]; exact su
        · rw [iu_k (by decide)]; exact u8
        · rw [iu_k (by decide)]; exact u7
        · rw [iu_eq]; omega
      · rw [iu_k (by decide), w6]; omega
      · rw [iu_k (by decide), w6]
      · rw [iu_k (by decide)]; exact w8
  refine lp_m (P := fun u => Z G mX6_advance d 0 0 0 [vr (some o0), vu] [] (mkC u rv) K) (fun u => (iv o0 5 - u o0 6).toNat) (fun u => aF iv u o0 ∧ (0 ≤ u o0 6 ∧ u o0 6 ≤ iv o0 5) ∧ scN isSp (iv 54) (iv o0 5) (u o0 6) = a) ?_ iv ⟨fun _ _ _ => rfl, hp, hA⟩
  rintro u ⟨fu, ru, su⟩ ih
  obtain ⟨u54, u5⟩ := fb u fu
  have on : (u o0 6 < iv o0 5 ∧ isSp (iv 54 (u o0 6).toNat) = true) → Z G mX6_advance d 0 0 0 [vr (some o0), vu] [] (mkC (iu u o0 6 (u o0 6 + 1)) rv) K := by
    intro q
    refine ih _ ⟨aF_u fu (by omega), ?_, ?_⟩ ?_
    · rw [iu_eq]; omega
    · rw [iu_eq, ← scN_t q.1 q.2]; exact su
    · rw [iu_eq]; omega
  have off : ¬ (u o0 6 < iv o0 5 ∧ isSp (iv 54 (u o0 6).toNat) = true) → Z G mX6_advance d 0 0 52 [vr (some o0), vu] [] (mkC u rv) K := fun q => tok u fu (by rw [← su]; exact (scN_f q).symm)
  apply sX6_advance_0 hR ho ht
  rw [u54, u5]
  refine ⟨fun c => off (fun z => by omega), fun c => ⟨by omega, fun c1 => ⟨by omega, on ⟨c, ?_⟩⟩, fun c1 => ⟨by omega, fun c2 => off (fun z => ?_), fun c2 => ⟨by omega, on ⟨c, ?_⟩⟩⟩⟩⟩
  · unfold isSp; rw [decide_eq_true_iff]; exact Or.inl c1
  · have := z.2; unfold isSp at this; rw [decide_eq_true_iff] at this; omega
  · unfold isSp; rw [decide_eq_true_iff]; exact Or.inr c2

