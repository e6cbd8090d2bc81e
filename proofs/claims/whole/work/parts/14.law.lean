def f_L_law_23 (L : Nat) (xs : Nat → Int32) (rec : St → Int32 → Prop) (σ : St) (l4 : Int32) : Prop :=
  ((((Int32.ofNat L) - (6 : Int32)) < l4 → True) ∧ (¬ ((Int32.ofNat L) - (6 : Int32)) < l4 → (vp_in l4 L ∧ ((((xs l4.toNatClampNeg) &&& (31 : Int32)) = (0 : Int32) → (vp_in (l4 + (1 : Int32)) L ∧ (vp_in (l4 + (2 : Int32)) L ∧ (vp_in (l4 + (3 : Int32)) L ∧ f_L_sound σ (xs (l4 + (1 : Int32)).toNatClampNeg) (xs (l4 + (2 : Int32)).toNatClampNeg) (xs (l4 + (3 : Int32)).toNatClampNeg) (fun r192 s192 => (vp_in (l4 + (1 : Int32)) L ∧ (vp_in (l4 + (2 : Int32)) L ∧ (vp_in (l4 + (3 : Int32)) L ∧ f_X9_sound s192 (xs (l4 + (1 : Int32)).toNatClampNeg) (xs (l4 + (2 : Int32)).toNatClampNeg) (xs (l4 + (3 : Int32)).toNatClampNeg) (fun r216 s216 => f_X9_thrown s216 (fun r222 s222 => ((r222 = r192 → ((¬ r192 = 0 → rec s222 (l4 + 6)) ∧ (r192 = 0 → (((lg_cmp (go s222 (0 : Int32).toNatClampNeg) r216.toInt64) = 0 → rec s222 (l4 + 6)) ∧ (¬ (lg_cmp (go s222 (0 : Int32).toNatClampNeg) r216.toInt64) = 0 → False))))) ∧ (¬ r222 = r192 → False)))))))))))) ∧ (¬ ((xs l4.toNatClampNeg) &&& (31 : Int32)) = (0 : Int32) → ((((xs l4.toNatClampNeg) &&& (31 : Int32)) = (1 : Int32) → (vp_in (l4 + (1 : Int32)) L ∧ (vp_in (l4 + (2 : Int32)) L ∧ (vp_in (l4 + (3 : Int32)) L ∧ f_L_soundRow σ (xs (l4 + (1 : Int32)).toNatClampNeg) (xs (l4 + (2 : Int32)).toNatClampNeg) (xs (l4 + (3 : Int32)).toNatClampNeg) (fun r272 s272 => (vp_in (l4 + (1 : Int32)) L ∧ (vp_in (l4 + (2 : Int32)) L ∧ (vp_in (l4 + (3 : Int32)) L ∧ f_X9_soundRow s272 (xs (l4 + (1 : Int32)).toNatClampNeg) (xs (l4 + (2 : Int32)).toNatClampNeg) (xs (l4 + (3 : Int32)).toNatClampNeg) (fun r296 s296 => f_X9_thrown s296 (fun r302 s302 => ((r302 = r272 → ((¬ r272 = 0 → rec s302 (l4 + 6)) ∧ (r272 = 0 → (((lg_cmp (go s302 (0 : Int32).toNatClampNeg) r296.toInt64) = 0 → rec s302 (l4 + 6)) ∧ (¬ (lg_cmp (go s302 (0 : Int32).toNatClampNeg) r296.toInt64) = 0 → False))))) ∧ (¬ r302 = r272 → False)))))))))))) ∧ (¬ ((xs l4.toNatClampNeg) &&& (31 : Int32)) = (1 : Int32) → ((((xs l4.toNatClampNeg) &&& (31 : Int32)) = (2 : Int32) → (vp_in (l4 + (1 : Int32)) L ∧ (vp_in (l4 + (2 : Int32)) L ∧ (((xs (l4 + (2 : Int32)).toNatClampNeg) = 0 → f_L_crack σ (xs (l4 + (1 : Int32)).toNatClampNeg) (0 : Int32) (fun r354 s354 => (vp_in (l4 + (1 : Int32)) L ∧ (vp_in (l4 + (2 : Int32)) L ∧ (((xs (l4 + (2 : Int32)).toNatClampNeg) = 0 → f_X9_crack s354 (xs (l4 + (1 : Int32)).toNatClampNeg) (0 : Int32) (fun r380 s380 => f_X9_thrown s380 (fun r386 s386 => ((r386 = r354 → ((¬ r354 = 0 → rec s386 (l4 + 6)) ∧ (r354 = 0 → ((r380 = 0 → (((lg_cmp (go s386 (0 : Int32).toNatClampNeg) (0 : Int64)) = 0 → rec s386 (l4 + 6)) ∧ (¬ (lg_cmp (go s386 (0 : Int32).toNatClampNeg) (0 : Int64)) = 0 → False))) ∧ (¬ r380 = 0 → (((lg_cmp (go s386 (0 : Int32).toNatClampNeg) (1 : Int64)) = 0 → rec s386 (l4 + 6)) ∧ (¬ (lg_cmp (go s386 (0 : Int32).toNatClampNeg) (1 : Int64)) = 0 → False))))))) ∧ (¬ r386 = r354 → False))))) ∧ (¬ (xs (l4 + (2 : Int32)).toNatClampNeg) = 0 → f_X9_crack s354 (xs (l4 + (1 : Int32)).toNatClampNeg) (1 : Int32) (fun r380 s380 => f_X9_thrown s380 (fun r386 s386 => ((r386 = r354 → ((¬ r354 = 0 → rec s386 (l4 + 6)) ∧ (r354 = 0 → ((r380 = 0 → (((lg_cmp (go s386 (0 : Int32).toNatClampNeg) (0 : Int64)) = 0 → rec s386 (l4 + 6)) ∧ (¬ (lg_cmp (go s386 (0 : Int32).toNatClampNeg) (0 : Int64)) = 0 → False))) ∧ (¬ r380 = 0 → (((lg_cmp (go s386 (0 : Int32).toNatClampNeg) (1 : Int64)) = 0 → rec s386 (l4 + 6)) ∧ (¬ (lg_cmp (go s386 (0 : Int32).toNatClampNeg) (1 : Int64)) = 0 → False))))))) ∧ (¬ r386 = r354 → False)))))))))) ∧ (¬ (xs (l4 + (2 : Int32)).toNatClampNeg) = 0 → f_L_crack σ (xs (l4 + (1 : Int32)).toNatClampNeg) (1 : Int32) (fun r354 s354 => (vp_in (l4 + (1 : Int32)) L ∧ (vp_in (l4 + (2 : Int32)) L ∧ (((xs (l4 + (2 : Int32)).toNatClampNeg) = 0 → f_X9_crack s354 (xs (l4 + (1 : Int32)).toNatClampNeg) (0 : Int32) (fun r380 s380 => f_X9_thrown s380 (fun r386 s386 => ((r386 = r354 → ((¬ r354 = 0 → rec s386 (l4 + 6)) ∧ (r354 = 0 → ((r380 = 0 → (((lg_cmp (go s386 (0 : Int32).toNatClampNeg) (0 : Int64)) = 0 → rec s386 (l4 + 6)) ∧ (¬ (lg_cmp (go s386 (0 : Int32).toNatClampNeg) (0 : Int64)) = 0 → False))) ∧ (¬ r380 = 0 → (((lg_cmp (go s386 (0 : Int32).toNatClampNeg) (1 : Int64)) = 0 → rec s386 (l4 + 6)) ∧ (¬ (lg_cmp (go s386 (0 : Int32).toNatClampNeg) (1 : Int64)) = 0 → False))))))) ∧ (¬ r386 = r354 → False))))) ∧ (¬ (xs (l4 + (2 : Int32)).toNatClampNeg) = 0 → f_X9_crack s354 (xs (l4 + (1 : Int32)).toNatClampNeg) (1 : Int32) (fun r380 s380 => f_X9_thrown s380 (fun r386 s386 => ((r386 = r354 → ((¬ r354 = 0 → rec s386 (l4 + 6)) ∧ (r354 = 0 → ((r380 = 0 → (((lg_cmp (go s386 (0 : Int32).toNatClampNeg) (0 : Int64)) = 0 → rec s386 (l4 + 6)) ∧ (¬ (lg_cmp (go s386 (0 : Int32).toNatClampNeg) (0 : Int64)) = 0 → False))) ∧ (¬ r380 = 0 → (((lg_cmp (go s386 (0 : Int32).toNatClampNeg) (1 : Int64)) = 0 → rec s386 (l4 + 6)) ∧ (¬ (lg_cmp (go s386 (0 : Int32).toNatClampNeg) (1 : Int64)) = 0 → False))))))) ∧ (¬ r386 = r354 → False)))))))))))))) ∧ (¬ ((xs l4.toNatClampNeg) &&& (31 : Int32)) = (2 : Int32) → ((((xs l4.toNatClampNeg) &&& (31 : Int32)) = (3 : Int32) → (vp_in (l4 + (1 : Int32)) L ∧ f_L_hour σ (xs (l4 + (1 : Int32)).toNatClampNeg) (fun r431 s431 => (vp_in (l4 + (1 : Int32)) L ∧ f_X9_hour s431 (xs (l4 + (1 : Int32)).toNatClampNeg) (fun r443 s443 => f_X9_thrown s443 (fun r449 s449 => ((r449 = r431 → ((¬ r431 = 0 → rec s449 (l4 + 6)) ∧ (r431 = 0 → (((lg_cmp (go s449 (0 : Int32).toNatClampNeg) r443.toInt64) = 0 → rec s449 (l4 + 6)) ∧ (¬ (lg_cmp (go s449 (0 : Int32).toNatClampNeg) r443.toInt64) = 0 → False))))) ∧ (¬ r449 = r431 → False)))))))) ∧ (¬ ((xs l4.toNatClampNeg) &&& (31 : Int32)) = (3 : Int32) → ((((xs l4.toNatClampNeg) &&& (31 : Int32)) = (4 : Int32) → (vp_in (l4 + (1 : Int32)) L ∧ (vp_in (l4 + (2 : Int32)) L ∧ f_L_ice σ (xs (l4 + (1 : Int32)).toNatClampNeg) (xs (l4 + (2 : Int32)).toNatClampNeg) (fun r493 s493 => (vp_in (l4 + (1 : Int32)) L ∧ (vp_in (l4 + (2 : Int32)) L ∧ f_X9_ice s493 (xs (l4 + (1 : Int32)).toNatClampNeg) (xs (l4 + (2 : Int32)).toNatClampNeg) (fun r511 s511 => f_X9_thrown s511 (fun r517 s517 => ((r517 = r493 → ((¬ r493 = 0 → rec s517 (l4 + 6)) ∧ (r493 = 0 → (((lg_cmp (go s517 (0 : Int32).toNatClampNeg) r511.toInt64) = 0 → rec s517 (l4 + 6)) ∧ (¬ (lg_cmp (go s517 (0 : Int32).toNatClampNeg) r511.toInt64) = 0 → False))))) ∧ (¬ r517 = r493 → False)))))))))) ∧ (¬ ((xs l4.toNatClampNeg) &&& (31 : Int32)) = (4 : Int32) → ((((xs l4.toNatClampNeg) &&& (31 : Int32)) = (5 : Int32) → (vp_in (l4 + (1 : Int32)) L ∧ (vp_in (l4 + (2 : Int32)) L ∧ f_L_lasts σ (xs (l4 + (1 : Int32)).toNatClampNeg) (xs (l4 + (2 : Int32)).toNatClampNeg) (fun r561 s561 => (vp_in (l4 + (1 : Int32)) L ∧ (vp_in (l4 + (2 : Int32)) L ∧ f_X9_lasts s561 (xs (l4 + (1 : Int32)).toNatClampNeg) (xs (l4 + (2 : Int32)).toNatClampNeg) (fun r579 s579 => f_X9_thrown s579 (fun r585 s585 => ((r585 = r561 → ((¬ r561 = 0 → rec s585 (l4 + 6)) ∧ (r561 = 0 → (((lg_cmp (go s585 (0 : Int32).toNatClampNeg) r579.toInt64) = 0 → rec s585 (l4 + 6)) ∧ (¬ (lg_cmp (go s585 (0 : Int32).toNatClampNeg) r579.toInt64) = 0 → False))))) ∧ (¬ r585 = r561 → False)))))))))) ∧ (¬ ((xs l4.toNatClampNeg) &&& (31 : Int32)) = (5 : Int32) → ((((xs l4.toNatClampNeg) &&& (31 : Int32)) = (6 : Int32) → (vp_in (l4 + (1 : Int32)) L ∧ f_L_wind σ (xs (l4 + (1 : Int32)).toNatClampNeg) (fun r623 s623 => (vp_in (l4 + (1 : Int32)) L ∧ f_X9_wind s623 (xs (l4 + (1 : Int32)).toNatClampNeg) (fun r635 s635 => f_X9_thrown s635 (fun r641 s641 => ((r641 = r623 → ((¬ r623 = 0 → rec s641 (l4 + 6)) ∧ (r623 = 0 → (((lg_cmp (go s641 (0 : Int32).toNatClampNeg) r635.toInt64) = 0 → rec s641 (l4 + 6)) ∧ (¬ (lg_cmp (go s641 (0 : Int32).toNatClampNeg) r635.toInt64) = 0 → False))))) ∧ (¬ r641 = r623 → False)))))))) ∧ (¬ ((xs l4.toNatClampNeg) &&& (31 : Int32)) = (6 : Int32) → ((((xs l4.toNatClampNeg) &&& (31 : Int32)) = (7 : Int32) → f_X8_course σ (fun r672 s672 => f_X9_course s672 (fun r676 s676 => ((r672 = r676 → rec s676 (l4 + 6)) ∧ (¬ r672 = r676 → False))))) ∧ (¬ ((xs l4.toNatClampNeg) &&& (31 : Int32)) = (7 : Int32) → ((((xs l4.toNatClampNeg) &&& (31 : Int32)) = (8 : Int32) → (vp_in (l4 + (1 : Int32)) L ∧ f_L_move σ (xs (l4 + (1 : Int32)).toNatClampNeg) (fun r692 s692 => (vp_in (l4 + (1 : Int32)) L ∧ f_X9_move s692 (xs (l4 + (1 : Int32)).toNatClampNeg) (fun r704 s704 => f_X9_thrown s704 (fun r710 s710 => ((r710 = r692 → ((¬ r692 = 0 → rec s710 (l4 + 6)) ∧ (r692 = 0 → (((lg_cmp (go s710 (0 : Int32).toNatClampNeg) r704.toInt64) = 0 → rec s710 (l4 + 6)) ∧ (¬ (lg_cmp (go s710 (0 : Int32).toNatClampNeg) r704.toInt64) = 0 → False))))) ∧ (¬ r710 = r692 → False)))))))) ∧ (¬ ((xs l4.toNatClampNeg) &&& (31 : Int32)) = (8 : Int32) → ((((xs l4.toNatClampNeg) &&& (31 : Int32)) = (9 : Int32) → (vp_in (l4 + (1 : Int32)) L ∧ f_L_mark σ (xs (l4 + (1 : Int32)).toNatClampNeg) (fun r748 s748 => (vp_in (l4 + (1 : Int32)) L ∧ f_X9_mark s748 (xs (l4 + (1 : Int32)).toNatClampNeg) (fun r760 s760 => f_X9_thrown s760 (fun r766 s766 => ((r766 = r748 → ((¬ r748 = 0 → rec s766 (l4 + 6)) ∧ (r748 = 0 → (((lg_cmp (go s766 (0 : Int32).toNatClampNeg) r760.toInt64) = 0 → rec s766 (l4 + 6)) ∧ (¬ (lg_cmp (go s766 (0 : Int32).toNatClampNeg) r760.toInt64) = 0 → False))))) ∧ (¬ r766 = r748 → False)))))))) ∧ (¬ ((xs l4.toNatClampNeg) &&& (31 : Int32)) = (9 : Int32) → ((((xs l4.toNatClampNeg) &&& (31 : Int32)) = (10 : Int32) → f_X8_holds σ (fun r797 s797 => f_X9_holds s797 (fun r801 s801 => ((r797 = r801 → rec s801 (l4 + 6)) ∧ (¬ r797 = r801 → False))))) ∧ (¬ ((xs l4.toNatClampNeg) &&& (31 : Int32)) = (10 : Int32) → ((((xs l4.toNatClampNeg) &&& (31 : Int32)) = (11 : Int32) → (vp_in (l4 + (1 : Int32)) L ∧ (vp_in (l4 + (2 : Int32)) L ∧ (vp_in (l4 + (3 : Int32)) L ∧ (vp_in (l4 + (4 : Int32)) L ∧ (vp_in (l4 + (5 : Int32)) L ∧ f_X8_feed σ (xs (l4 + (1 : Int32)).toNatClampNeg) (xs (l4 + (2 : Int32)).toNatClampNeg) (xs (l4 + (3 : Int32)).toNatClampNeg) (xs (l4 + (4 : Int32)).toNatClampNeg) (xs (l4 + (5 : Int32)).toNatClampNeg) (fun r840 s840 => (vp_in (l4 + (1 : Int32)) L ∧ (vp_in (l4 + (2 : Int32)) L ∧ (vp_in (l4 + (3 : Int32)) L ∧ (vp_in (l4 + (4 : Int32)) L ∧ (vp_in (l4 + (5 : Int32)) L ∧ f_X9_feed s840 (xs (l4 + (1 : Int32)).toNatClampNeg) (xs (l4 + (2 : Int32)).toNatClampNeg) (xs (l4 + (3 : Int32)).toNatClampNeg) (xs (l4 + (4 : Int32)).toNatClampNeg) (xs (l4 + (5 : Int32)).toNatClampNeg) (fun r874 s874 => ((r840 = r874 → rec s874 (l4 + 6)) ∧ (¬ r840 = r874 → False))))))))))))))) ∧ (¬ ((xs l4.toNatClampNeg) &&& (31 : Int32)) = (11 : Int32) → ((((xs l4.toNatClampNeg) &&& (31 : Int32)) = (12 : Int32) → (vp_in (l4 + (1 : Int32)) L ∧ f_L_rule σ (xs (l4 + (1 : Int32)).toNatClampNeg) (fun r890 s890 => (vp_in (l4 + (1 : Int32)) L ∧ f_X9_rule s890 (xs (l4 + (1 : Int32)).toNatClampNeg) (fun r902 s902 => f_X9_thrown s902 (fun r908 s908 => ((r908 = r890 → ((¬ r890 = 0 → rec s908 (l4 + 6)) ∧ (r890 = 0 → (((lg_cmp (go s908 (0 : Int32).toNatClampNeg) r902.toInt64) = 0 → rec s908 (l4 + 6)) ∧ (¬ (lg_cmp (go s908 (0 : Int32).toNatClampNeg) r902.toInt64) = 0 → False))))) ∧ (¬ r908 = r890 → False)))))))) ∧ (¬ ((xs l4.toNatClampNeg) &&& (31 : Int32)) = (12 : Int32) → ((((xs l4.toNatClampNeg) &&& (31 : Int32)) = (13 : Int32) → f_X8_fault σ (fun r939 s939 => f_X9_fault s939 (fun r943 s943 => ((r939 = r943 → rec s943 (l4 + 6)) ∧ (¬ r939 = r943 → False))))) ∧ (¬ ((xs l4.toNatClampNeg) &&& (31 : Int32)) = (13 : Int32) → ((((xs l4.toNatClampNeg) &&& (31 : Int32)) = (14 : Int32) → f_L_boat σ (fun r953 s953 => f_X9_boat s953 (fun r959 s959 => f_X9_thrown s959 (fun r965 s965 => ((r965 = r953 → ((¬ r953 = 0 → rec s965 (l4 + 6)) ∧ (r953 = 0 → (((lg_cmp (go s965 (0 : Int32).toNatClampNeg) r959.toInt64) = 0 → rec s965 (l4 + 6)) ∧ (¬ (lg_cmp (go s965 (0 : Int32).toNatClampNeg) r959.toInt64) = 0 → False))))) ∧ (¬ r965 = r953 → False)))))) ∧ (¬ ((xs l4.toNatClampNeg) &&& (31 : Int32)) = (14 : Int32) → ((((xs l4.toNatClampNeg) &&& (31 : Int32)) = (15 : Int32) → (vp_in (l4 + (1 : Int32)) L ∧ (vp_in (l4 + (2 : Int32)) L ∧ (vp_in (l4 + (3 : Int32)) L ∧ (vp_in (l4 + (4 : Int32)) L ∧ f_L_place σ (xs (l4 + (1 : Int32)).toNatClampNeg) (xs (l4 + (2 : Int32)).toNatClampNeg) (xs (l4 + (3 : Int32)).toNatClampNeg) (xs (l4 + (4 : Int32)).toNatClampNeg) (fun r1021 s1021 => (vp_in (l4 + (1 : Int32)) L ∧ (vp_in (l4 + (2 : Int32)) L ∧ (vp_in (l4 + (3 : Int32)) L ∧ (vp_in (l4 + (4 : Int32)) L ∧ f_X9_place s1021 (xs (l4 + (1 : Int32)).toNatClampNeg) (xs (l4 + (2 : Int32)).toNatClampNeg) (xs (l4 + (3 : Int32)).toNatClampNeg) (xs (l4 + (4 : Int32)).toNatClampNeg) (fun r1051 s1051 => f_X9_thrown s1051 (fun r1057 s1057 => ((r1057 = r1021 → ((¬ r1021 = 0 → rec s1057 (l4 + 6)) ∧ (r1021 = 0 → (((lg_cmp (go s1057 (0 : Int32).toNatClampNeg) r1051.toInt64) = 0 → rec s1057 (l4 + 6)) ∧ (¬ (lg_cmp (go s1057 (0 : Int32).toNatClampNeg) r1051.toInt64) = 0 → False))))) ∧ (¬ r1057 = r1021 → False)))))))))))))) ∧ (¬ ((xs l4.toNatClampNeg) &&& (31 : Int32)) = (15 : Int32) → ((((xs l4.toNatClampNeg) &&& (31 : Int32)) = (16 : Int32) → (vp_in (l4 + (1 : Int32)) L ∧ (vp_in (l4 + (2 : Int32)) L ∧ f_L_clear σ (xs (l4 + (1 : Int32)).toNatClampNeg) (xs (l4 + (2 : Int32)).toNatClampNeg) (fun r1101 s1101 => (vp_in (l4 + (1 : Int32)) L ∧ (vp_in (l4 + (2 : Int32)) L ∧ f_X9_clear s1101 (xs (l4 + (1 : Int32)).toNatClampNeg) (xs (l4 + (2 : Int32)).toNatClampNeg) (fun r1119 s1119 => f_X9_thrown s1119 (fun r1125 s1125 => ((r1125 = r1101 → ((¬ r1101 = 0 → rec s1125 (l4 + 6)) ∧ (r1101 = 0 → (((lg_cmp (go s1125 (0 : Int32).toNatClampNeg) r1119.toInt64) = 0 → rec s1125 (l4 + 6)) ∧ (¬ (lg_cmp (go s1125 (0 : Int32).toNatClampNeg) r1119.toInt64) = 0 → False))))) ∧ (¬ r1125 = r1101 → False)))))))))) ∧ (¬ ((xs l4.toNatClampNeg) &&& (31 : Int32)) = (16 : Int32) → ((((xs l4.toNatClampNeg) &&& (31 : Int32)) = (17 : Int32) → (vp_in (l4 + (1 : Int32)) L ∧ f_L_finish σ (xs (l4 + (1 : Int32)).toNatClampNeg) (fun r1163 s1163 => (vp_in (l4 + (1 : Int32)) L ∧ f_X9_finish s1163 (xs (l4 + (1 : Int32)).toNatClampNeg) (fun r1175 s1175 => f_X9_thrown s1175 (fun r1181 s1181 => ((r1181 = r1163 → ((¬ r1163 = 0 → rec s1181 (l4 + 6)) ∧ (r1163 = 0 → (((lg_cmp (go s1181 (0 : Int32).toNatClampNeg) r1175.toInt64) = 0 → rec s1181 (l4 + 6)) ∧ (¬ (lg_cmp (go s1181 (0 : Int32).toNatClampNeg) r1175.toInt64) = 0 → False))))) ∧ (¬ r1181 = r1163 → False)))))))) ∧ (¬ ((xs l4.toNatClampNeg) &&& (31 : Int32)) = (17 : Int32) → ((((xs l4.toNatClampNeg) &&& (31 : Int32)) = (18 : Int32) → f_X8_end σ (fun r1212 s1212 => f_X9_end s1212 (fun r1216 s1216 => ((r1212 = r1216 → rec s1216 (l4 + 6)) ∧ (¬ r1212 = r1216 → False))))) ∧ (¬ ((xs l4.toNatClampNeg) &&& (31 : Int32)) = (18 : Int32) → ((((xs l4.toNatClampNeg) &&& (31 : Int32)) = (19 : Int32) → (vp_in (l4 + (1 : Int32)) L ∧ (vp_in (l4 + (2 : Int32)) L ∧ f_L_points σ (xs (l4 + (1 : Int32)).toNatClampNeg) (xs (l4 + (2 : Int32)).toNatClampNeg) (fun r1238 s1238 => (vp_in (l4 + (1 : Int32)) L ∧ (vp_in (l4 + (2 : Int32)) L ∧ f_X9_points s1238 (xs (l4 + (1 : Int32)).toNatClampNeg) (xs (l4 + (2 : Int32)).toNatClampNeg) (fun r1256 s1256 => f_X9_thrown s1256 (fun r1262 s1262 => ((r1262 = r1238 → ((¬ r1238 = 0 → rec s1262 (l4 + 6)) ∧ (r1238 = 0 → (((lg_cmp (go s1262 (0 : Int32).toNatClampNeg) r1256.toInt64) = 0 → rec s1262 (l4 + 6)) ∧ (¬ (lg_cmp (go s1262 (0 : Int32).toNatClampNeg) r1256.toInt64) = 0 → False))))) ∧ (¬ r1262 = r1238 → False)))))))))) ∧ (¬ ((xs l4.toNatClampNeg) &&& (31 : Int32)) = (19 : Int32) → ((((xs l4.toNatClampNeg) &&& (31 : Int32)) = (20 : Int32) → (vp_in (l4 + (1 : Int32)) L ∧ f_L_score σ (xs (l4 + (1 : Int32)).toNatClampNeg) (fun r1300 s1300 => (vp_in (l4 + (1 : Int32)) L ∧ f_X9_score s1300 (xs (l4 + (1 : Int32)).toNatClampNeg) (fun r1312 s1312 => f_X9_thrown s1312 (fun r1318 s1318 => ((r1318 = r1300 → ((¬ r1300 = 0 → rec s1318 (l4 + 6)) ∧ (r1300 = 0 → (((lg_cmp (go s1318 (0 : Int32).toNatClampNeg) r1312.toInt64) = 0 → rec s1318 (l4 + 6)) ∧ (¬ (lg_cmp (go s1318 (0 : Int32).toNatClampNeg) r1312.toInt64) = 0 → False))))) ∧ (¬ r1318 = r1300 → False)))))))) ∧ (¬ ((xs l4.toNatClampNeg) &&& (31 : Int32)) = (20 : Int32) → ((((xs l4.toNatClampNeg) &&& (31 : Int32)) = (21 : Int32) → (vp_in (l4 + (1 : Int32)) L ∧ f_X8_rank σ (xs (l4 + (1 : Int32)).toNatClampNeg) (fun r1355 s1355 => (vp_in (l4 + (1 : Int32)) L ∧ f_X9_rank s1355 (xs (l4 + (1 : Int32)).toNatClampNeg) (fun r1365 s1365 => ((r1355 = r1365 → rec s1365 (l4 + 6)) ∧ (¬ r1355 = r1365 → False))))))) ∧ (¬ ((xs l4.toNatClampNeg) &&& (31 : Int32)) = (21 : Int32) → ((((xs l4.toNatClampNeg) &&& (31 : Int32)) = (22 : Int32) → (vp_in (l4 + (1 : Int32)) L ∧ f_L_part σ (xs (l4 + (1 : Int32)).toNatClampNeg) (fun r1381 s1381 => (vp_in (l4 + (1 : Int32)) L ∧ f_X9_part s1381 (xs (l4 + (1 : Int32)).toNatClampNeg) (fun r1393 s1393 => f_X9_thrown s1393 (fun r1399 s1399 => ((r1399 = r1381 → ((¬ r1381 = 0 → rec s1399 (l4 + 6)) ∧ (r1381 = 0 → (((lg_cmp (go s1399 (0 : Int32).toNatClampNeg) r1393.toInt64) = 0 → rec s1399 (l4 + 6)) ∧ (¬ (lg_cmp (go s1399 (0 : Int32).toNatClampNeg) r1393.toInt64) = 0 → False))))) ∧ (¬ r1399 = r1381 → False)))))))) ∧ (¬ ((xs l4.toNatClampNeg) &&& (31 : Int32)) = (22 : Int32) → ((((xs l4.toNatClampNeg) &&& (31 : Int32)) = (23 : Int32) → (vp_in (l4 + (1 : Int32)) L ∧ f_L_promote σ (xs (l4 + (1 : Int32)).toNatClampNeg) (fun r1437 s1437 => (vp_in (l4 + (1 : Int32)) L ∧ f_X9_promote s1437 (xs (l4 + (1 : Int32)).toNatClampNeg) (fun r1449 s1449 => f_X9_thrown s1449 (fun r1455 s1455 => ((r1455 = r1437 → ((¬ r1437 = 0 → rec s1455 (l4 + 6)) ∧ (r1437 = 0 → (((lg_cmp (go s1455 (0 : Int32).toNatClampNeg) r1449.toInt64) = 0 → rec s1455 (l4 + 6)) ∧ (¬ (lg_cmp (go s1455 (0 : Int32).toNatClampNeg) r1449.toInt64) = 0 → False))))) ∧ (¬ r1455 = r1437 → False)))))))) ∧ (¬ ((xs l4.toNatClampNeg) &&& (31 : Int32)) = (23 : Int32) → ((((xs l4.toNatClampNeg) &&& (31 : Int32)) = (24 : Int32) → (vp_in (l4 + (1 : Int32)) L ∧ f_L_fleet σ (xs (l4 + (1 : Int32)).toNatClampNeg) (fun r1493 s1493 => (vp_in (l4 + (1 : Int32)) L ∧ f_X9_fleet s1493 (xs (l4 + (1 : Int32)).toNatClampNeg) (fun r1505 s1505 => f_X9_thrown s1505 (fun r1511 s1511 => ((r1511 = r1493 → ((¬ r1493 = 0 → rec s1511 (l4 + 6)) ∧ (r1493 = 0 → (((lg_cmp (go s1511 (0 : Int32).toNatClampNeg) r1505.toInt64) = 0 → rec s1511 (l4 + 6)) ∧ (¬ (lg_cmp (go s1511 (0 : Int32).toNatClampNeg) r1505.toInt64) = 0 → False))))) ∧ (¬ r1511 = r1493 → False)))))))) ∧ (¬ ((xs l4.toNatClampNeg) &&& (31 : Int32)) = (24 : Int32) → ((((xs l4.toNatClampNeg) &&& (31 : Int32)) = (25 : Int32) → (vp_in (l4 + (1 : Int32)) L ∧ f_X8_noise σ (xs (l4 + (1 : Int32)).toNatClampNeg) (fun r1548 s1548 => (vp_in (l4 + (1 : Int32)) L ∧ f_X9_noise s1548 (xs (l4 + (1 : Int32)).toNatClampNeg) (fun r1558 s1558 => ((r1548 = r1558 → rec s1558 (l4 + 6)) ∧ (¬ r1548 = r1558 → False))))))) ∧ (¬ ((xs l4.toNatClampNeg) &&& (31 : Int32)) = (25 : Int32) → ((((xs l4.toNatClampNeg) &&& (31 : Int32)) = (26 : Int32) → f_X8_draw σ (fun r1567 s1567 => f_X9_draw s1567 (fun r1571 s1571 => ((r1567 = r1571 → rec s1571 (l4 + 6)) ∧ (¬ r1567 = r1571 → False))))) ∧ (¬ ((xs l4.toNatClampNeg) &&& (31 : Int32)) = (26 : Int32) → ((((xs l4.toNatClampNeg) &&& (31 : Int32)) = (27 : Int32) → (vp_in (l4 + (1 : Int32)) L ∧ f_X8_lot σ (xs (l4 + (1 : Int32)).toNatClampNeg) (fun r1586 s1586 => (vp_in (l4 + (1 : Int32)) L ∧ f_X9_lot s1586 (xs (l4 + (1 : Int32)).toNatClampNeg) (fun r1596 s1596 => ((r1586 = r1596 → rec s1596 (l4 + 6)) ∧ (¬ r1586 = r1596 → False))))))) ∧ (¬ ((xs l4.toNatClampNeg) &&& (31 : Int32)) = (27 : Int32) → ((((xs l4.toNatClampNeg) &&& (31 : Int32)) = (28 : Int32) → (vp_in (l4 + (1 : Int32)) L ∧ f_X8_count σ (xs (l4 + (1 : Int32)).toNatClampNeg) (fun r1611 s1611 => (vp_in (l4 + (1 : Int32)) L ∧ f_X9_count s1611 (xs (l4 + (1 : Int32)).toNatClampNeg) (fun r1621 s1621 => ((r1611 = r1621 → rec s1621 (l4 + 6)) ∧ (¬ r1611 = r1621 → False))))))) ∧ (¬ ((xs l4.toNatClampNeg) &&& (31 : Int32)) = (28 : Int32) → rec σ (l4 + 6))))))))))))))))))))))))))))))))))))))))))))))))))))))))))))))
def f_L_law_23L (L : Nat) (xs : Nat → Int32) : Nat → St → Int32 → Prop
  | 0, _, _ => False
  | n + 1, σ, l4 => f_L_law_23 L xs (f_L_law_23L L xs n) σ l4
set_option maxHeartbeats 16000000 in
set_option maxRecDepth 100000 in
theorem w_L_law_23 {p : Program} {l : Launch} {e : Env} {s : State} {m : MethodId} {below : List Frame} {meth : Method} {c : Code} {G : GG} {b L : Nat} {xs : Nat → Int32} (E : EV p s m #[Value.ref b] c cL_law 7 wsL_law RL G (fun q : Nat => s.heap.size ≤ q)) (hr : meth.sig.returnType = ret) (hlocks : meth.locks = false) (hst : l.stackTraces = false) (hX : va_X b L xs s s.heap) (hbl : b < s.heap.size) : ∀ (n : Nat) (σ : St) (l4 : Int32) (cells slots : Nat) (H : Heap) (locs : List Loc) (ls : Array Slot), f_L_law_23L L xs n σ l4 → cells + n ≤ 1086 → slots + 6 * n ≤ 10650 → HH G (fun q : Nat => s.heap.size ≤ q) s σ H locs → lv_has ls 7 [(0, .ref b), (1, .ref (G.2.1 0)), (2, .ref (G.2.1 28)), (3, .ref (G.2.1 47)), (4, .int l4)] → W p l e room_1 s m #[Value.ref b] below meth c H locs cells slots (lw_Z below #[Value.ref b] s) (F0 m 23 ls []) := by
  have hx := E.1.1
  have hb := E.1.2.1
  have hown := E.1.2.2.2.1
  have hts := E.1.2.2.2.2
  have hbA : ¬ (fun q : Nat => s.heap.size ≤ q) b := Nat.not_le.mpr hbl
  intro n
  induction n with
  | zero =>
    intro σ l4 cells slots H locs ls h
    exact h.elim
  | succ n ih =>
    intro σ l4 cells slots H locs ls h hc hs hh hl
    have h : f_L_law_23 L xs (f_L_law_23L L xs n) σ l4 := h
    unfold f_L_law_23 at h
    refine lv_iload hx hb dL_law_23 (lv_at hl 4 rfl) ?_
    refine lv_aload_n hx hb dL_law_25 rfl (lv_at hl 0 rfl) ?_
    refine va_slen hx hb hX hbl hbA hh.2 dL_law_26 ?_
    refine lv_bipush (v := (6 : Int32)) hx hb dL_law_27 (by decide) ?_
    refine lv_isub hx hb dL_law_29 ?_
    refine lv_icmp_gt (tgt := 1635) hx hb dL_law_30 (by decide) (fun c9 => ?_) (fun c9 => ?_)
    · have h := h.1 c9
      refine lv_iconst (v := (1 : Int32)) hx hb dL_law_1635 (by decide) ?_
      refine va_forget (fun q hq => hh.2.2.2 q hq) ?_
      refine W.widen (k := 1086) (n := 10650) (by omega) (by omega) ?_
      exact lw_ret hx hb hr hlocks dL_law_1636
    · have h := h.2 c9
      refine lv_aload_n hx hb dL_law_33 rfl (lv_at hl 0 rfl) ?_
      refine lv_iload hx hb dL_law_34 (lv_at hl 4 rfl) ?_
      obtain ⟨h0, h⟩ := h
      refine va_sld hx hb hX hbl hbA hh.2 h0 dL_law_36 ?_
      refine lv_bipush (v := (31 : Int32)) hx hb dL_law_37 (by decide) ?_
      refine lv_iand hx hb dL_law_39 ?_
      by_cases c9_0 : ((xs l4.toNatClampNeg) &&& (31 : Int32)) = (0 : Int32)
      · have h := h.1 c9_0
        refine lv_tableIn (tgt := 172) hx hb dL_law_40 (by rw [c9_0]; decide) (by rw [c9_0]; decide) (by rw [c9_0] <;> rfl) (by decide) ?_
        refine lv_aload_n hx hb dL_law_172 rfl (lv_at hl 1 rfl) ?_
        refine lv_aload_n hx hb dL_law_173 rfl (lv_at hl 0 rfl) ?_
        refine lv_iload hx hb dL_law_174 (lv_at hl 4 rfl) ?_
        refine lv_iconst (v := (1 : Int32)) hx hb dL_law_176 (by decide) ?_
        refine lv_iadd hx hb dL_law_177 ?_
        obtain ⟨h0, h⟩ := h
        refine va_sld hx hb hX hbl hbA hh.2 h0 dL_law_178 ?_
        refine lv_aload_n hx hb dL_law_179 rfl (lv_at hl 0 rfl) ?_
        refine lv_iload hx hb dL_law_180 (lv_at hl 4 rfl) ?_
        refine lv_iconst (v := (2 : Int32)) hx hb dL_law_182 (by decide) ?_
        refine lv_iadd hx hb dL_law_183 ?_
        obtain ⟨h0, h⟩ := h
        refine va_sld hx hb hX hbl hbA hh.2 h0 dL_law_184 ?_
        refine lv_aload_n hx hb dL_law_185 rfl (lv_at hl 0 rfl) ?_
        refine lv_iload hx hb dL_law_186 (lv_at hl 4 rfl) ?_
        refine lv_iconst (v := (3 : Int32)) hx hb dL_law_188 (by decide) ?_
        refine lv_iadd hx hb dL_law_189 ?_
        obtain ⟨h0, h⟩ := h
        refine va_sld hx hb hX hbl hbA hh.2 h0 dL_law_190 ?_
        refine lv_aload_n hx hb dL_law_191 rfl (lv_at hl 3 rfl) ?_
        refine q_SL (As := [.ref (G.2.1 0), .int (xs (l4 + (1 : Int32)).toNatClampNeg), .int (xs (l4 + (2 : Int32)).toNatClampNeg), .int (xs (l4 + (3 : Int32)).toNatClampNeg), .ref (G.2.1 47)]) (rest := []) E hh (c_L_sound l G _ _ _ _ _ _ hst h) (vx_cwSW 5 hts gL_law_L_sound rfl rfl rfl (by decide +kernel) ⟨Nat.le_of_ble_eq_true rfl, Nat.le_of_ble_eq_true rfl⟩) rfl hl.1 rfl (Nat.le_of_ble_eq_true rfl) dL_law_192 ⟨(by omega : cells + 1 ≤ 1086), (by omega : slots + 6 ≤ 10650)⟩ (fun r192 s192 H locs h hh => ?_)
        refine lv_istore (lv' := [(5, .int r192), (0, .ref b), (1, .ref (G.2.1 0)), (2, .ref (G.2.1 28)), (3, .ref (G.2.1 47)), (4, .int l4)]) hx hb dL_law_195 hl (by decide) rfl (fun ls hl => ?_)
        refine lv_aload_n hx hb dL_law_197 rfl (lv_at hl 3 rfl) ?_
        refine lv_aload_n hx hb dL_law_198 rfl (lv_at hl 1 rfl) ?_
        refine lv_iload hx hb dL_law_199 (lv_at hl 5 rfl) ?_
        refine lv_iconst (v := (1 : Int32)) hx hb dL_law_201 (by decide) ?_
        refine lv_iadd hx hb dL_law_202 ?_
        obtain ⟨h0, h⟩ := h
        refine va_sld hx hb hX hbl hbA hh.2 h0 dL_law_203 ?_
        refine lv_aload_n hx hb dL_law_204 rfl (lv_at hl 1 rfl) ?_
        refine lv_iload hx hb dL_law_205 (lv_at hl 5 rfl) ?_
        refine lv_iconst (v := (2 : Int32)) hx hb dL_law_207 (by decide) ?_
        refine lv_iadd hx hb dL_law_208 ?_
        obtain ⟨h0, h⟩ := h
        refine va_sld hx hb hX hbl hbA hh.2 h0 dL_law_209 ?_
        refine lv_aload_n hx hb dL_law_210 rfl (lv_at hl 1 rfl) ?_
        refine lv_iload hx hb dL_law_211 (lv_at hl 5 rfl) ?_
        refine lv_iconst (v := (3 : Int32)) hx hb dL_law_213 (by decide) ?_
        refine lv_iadd hx hb dL_law_214 ?_
        obtain ⟨h0, h⟩ := h
        refine va_sld hx hb hX hbl hbA hh.2 h0 dL_law_215 ?_
        refine q_Vi (As := [.int (xs (l4 + (1 : Int32)).toNatClampNeg), .int (xs (l4 + (2 : Int32)).toNatClampNeg), .int (xs (l4 + (3 : Int32)).toNatClampNeg)]) (rest := []) E hh (c_X9_sound l G _ _ _ _ _ _ h) (cwV 3 hts gL_law_X9_sound rfl rfl rfl (by decide +kernel) ⟨Nat.le_of_ble_eq_true rfl, Nat.le_of_ble_eq_true rfl⟩) (va_recv (ci := 9) E.2.1 hh.1 rfl (WW_at_28 G s192)) rfl hl.1 rfl (Nat.le_of_ble_eq_true rfl) dL_law_216 ⟨(by omega : cells + 1 ≤ 1086), (by omega : slots + 6 ≤ 10650)⟩ (fun r216 s216 H locs h hh => ?_)
        refine lv_istore (lv' := [(6, .int r216), (5, .int r192), (0, .ref b), (1, .ref (G.2.1 0)), (2, .ref (G.2.1 28)), (3, .ref (G.2.1 47)), (4, .int l4)]) hx hb dL_law_219 hl (by decide) rfl (fun ls hl => ?_)
        refine lv_aload_n hx hb dL_law_221 rfl (lv_at hl 4 rfl) ?_
        refine q_Vi (As := []) (rest := []) E hh (c_X9_thrown l G _ _  _ h) (cwV 0 hts gL_law_X9_thrown rfl rfl rfl (by decide +kernel) ⟨Nat.le_of_ble_eq_true rfl, Nat.le_of_ble_eq_true rfl⟩) (va_recv (ci := 9) E.2.1 hh.1 rfl (WW_at_28 G s216)) rfl hl.1 rfl (Nat.le_of_ble_eq_true rfl) dL_law_222 ⟨(by omega : cells + 1 ≤ 1086), (by omega : slots + 6 ≤ 10650)⟩ (fun r222 s222 H locs h hh => ?_)
        refine lv_iload hx hb dL_law_225 (lv_at hl 1 rfl) ?_
        refine lv_icmp_eq (tgt := 232) hx hb dL_law_227 (by decide) (fun c9 => ?_) (fun c9 => ?_)
        · have h := h.1 c9
          refine lv_iload hx hb dL_law_232 (lv_at hl 1 rfl) ?_
          refine lv_if_ne (tgt := 249) hx hb dL_law_234 (by decide) (fun c9 => ?_) (fun c9 => ?_)
          · have h := h.1 c9
            refine lv_goto (tgt := 1629) hx hb dL_law_249 (by decide) ?_
            refine lv_iinc (v := (l4 + 6)) (lv' := [(4, .int (l4 + 6)), (6, .int r216), (5, .int r192), (0, .ref b), (1, .ref (G.2.1 0)), (2, .ref (G.2.1 28)), (3, .ref (G.2.1 47))]) hx hb dL_law_1629 hl (k := 6) rfl rfl (by decide) rfl (fun ls hl => ?_)
            refine lv_goto (tgt := 23) hx hb dL_law_1632 (by decide) ?_
            exact ih _ _ _ _ _ _ _ h (by omega) (by omega) hh (lv_sub hl [3, 4, 5, 6, 0] rfl)
          · have h := h.2 c9
            refine lv_aload_n hx hb dL_law_237 rfl (lv_at hl 5 rfl) ?_
            refine lv_iconst (v := (0 : Int32)) hx hb dL_law_238 (by decide) ?_
            refine q_lald E hh 47 (WW_at_47 G s222) (vp_in_nI (n := 0) (by decide) (by decide)) dL_law_239 ?_
            refine lv_iload hx hb dL_law_240 (lv_at hl 0 rfl) ?_
            refine lv_i2l (v := r216.toInt64) hx hb dL_law_242 rfl ?_
            refine W.lcmp hx hb dL_law_243 ?_
            refine lv_if_eq (tgt := 249) hx hb dL_law_244 (by decide) (fun c9 => ?_) (fun c9 => ?_)
            · have h := h.1 c9
              refine lv_goto (tgt := 1629) hx hb dL_law_249 (by decide) ?_
              refine lv_iinc (v := (l4 + 6)) (lv' := [(4, .int (l4 + 6)), (6, .int r216), (5, .int r192), (0, .ref b), (1, .ref (G.2.1 0)), (2, .ref (G.2.1 28)), (3, .ref (G.2.1 47))]) hx hb dL_law_1629 hl (k := 6) rfl rfl (by decide) rfl (fun ls hl => ?_)
              refine lv_goto (tgt := 23) hx hb dL_law_1632 (by decide) ?_
              exact ih _ _ _ _ _ _ _ h (by omega) (by omega) hh (lv_sub hl [3, 4, 5, 6, 0] rfl)
            · have h := h.2 c9
              exact h.elim
        · have h := h.2 c9
          exact h.elim
      have h := h.2 c9_0
      by_cases c9_1 : ((xs l4.toNatClampNeg) &&& (31 : Int32)) = (1 : Int32)
      · have h := h.1 c9_1
        refine lv_tableIn (tgt := 252) hx hb dL_law_40 (by rw [c9_1]; decide) (by rw [c9_1]; decide) (by rw [c9_1] <;> rfl) (by decide) ?_
        refine lv_aload_n hx hb dL_law_252 rfl (lv_at hl 1 rfl) ?_
        refine lv_aload_n hx hb dL_law_253 rfl (lv_at hl 0 rfl) ?_
        refine lv_iload hx hb dL_law_254 (lv_at hl 4 rfl) ?_
        refine lv_iconst (v := (1 : Int32)) hx hb dL_law_256 (by decide) ?_
        refine lv_iadd hx hb dL_law_257 ?_
        obtain ⟨h0, h⟩ := h
        refine va_sld hx hb hX hbl hbA hh.2 h0 dL_law_258 ?_
        refine lv_aload_n hx hb dL_law_259 rfl (lv_at hl 0 rfl) ?_
        refine lv_iload hx hb dL_law_260 (lv_at hl 4 rfl) ?_
        refine lv_iconst (v := (2 : Int32)) hx hb dL_law_262 (by decide) ?_
        refine lv_iadd hx hb dL_law_263 ?_
        obtain ⟨h0, h⟩ := h
        refine va_sld hx hb hX hbl hbA hh.2 h0 dL_law_264 ?_
        refine lv_aload_n hx hb dL_law_265 rfl (lv_at hl 0 rfl) ?_
        refine lv_iload hx hb dL_law_266 (lv_at hl 4 rfl) ?_
        refine lv_iconst (v := (3 : Int32)) hx hb dL_law_268 (by decide) ?_
        refine lv_iadd hx hb dL_law_269 ?_
        obtain ⟨h0, h⟩ := h
        refine va_sld hx hb hX hbl hbA hh.2 h0 dL_law_270 ?_
        refine lv_aload_n hx hb dL_law_271 rfl (lv_at hl 3 rfl) ?_
        refine q_SL (As := [.ref (G.2.1 0), .int (xs (l4 + (1 : Int32)).toNatClampNeg), .int (xs (l4 + (2 : Int32)).toNatClampNeg), .int (xs (l4 + (3 : Int32)).toNatClampNeg), .ref (G.2.1 47)]) (rest := []) E hh (c_L_soundRow l G _ _ _ _ _ _ hst h) (vx_cwSW 5 hts gL_law_L_soundRow rfl rfl rfl (by decide +kernel) ⟨Nat.le_of_ble_eq_true rfl, Nat.le_of_ble_eq_true rfl⟩) rfl hl.1 rfl (Nat.le_of_ble_eq_true rfl) dL_law_272 ⟨(by omega : cells + 1 ≤ 1086), (by omega : slots + 6 ≤ 10650)⟩ (fun r272 s272 H locs h hh => ?_)
        refine lv_istore (lv' := [(5, .int r272), (0, .ref b), (1, .ref (G.2.1 0)), (2, .ref (G.2.1 28)), (3, .ref (G.2.1 47)), (4, .int l4)]) hx hb dL_law_275 hl (by decide) rfl (fun ls hl => ?_)
        refine lv_aload_n hx hb dL_law_277 rfl (lv_at hl 3 rfl) ?_
        refine lv_aload_n hx hb dL_law_278 rfl (lv_at hl 1 rfl) ?_
        refine lv_iload hx hb dL_law_279 (lv_at hl 5 rfl) ?_
        refine lv_iconst (v := (1 : Int32)) hx hb dL_law_281 (by decide) ?_
        refine lv_iadd hx hb dL_law_282 ?_
        obtain ⟨h0, h⟩ := h
        refine va_sld hx hb hX hbl hbA hh.2 h0 dL_law_283 ?_
        refine lv_aload_n hx hb dL_law_284 rfl (lv_at hl 1 rfl) ?_
        refine lv_iload hx hb dL_law_285 (lv_at hl 5 rfl) ?_
        refine lv_iconst (v := (2 : Int32)) hx hb dL_law_287 (by decide) ?_
        refine lv_iadd hx hb dL_law_288 ?_
        obtain ⟨h0, h⟩ := h
        refine va_sld hx hb hX hbl hbA hh.2 h0 dL_law_289 ?_
        refine lv_aload_n hx hb dL_law_290 rfl (lv_at hl 1 rfl) ?_
        refine lv_iload hx hb dL_law_291 (lv_at hl 5 rfl) ?_
        refine lv_iconst (v := (3 : Int32)) hx hb dL_law_293 (by decide) ?_
        refine lv_iadd hx hb dL_law_294 ?_
        obtain ⟨h0, h⟩ := h
        refine va_sld hx hb hX hbl hbA hh.2 h0 dL_law_295 ?_
        refine q_Vi (As := [.int (xs (l4 + (1 : Int32)).toNatClampNeg), .int (xs (l4 + (2 : Int32)).toNatClampNeg), .int (xs (l4 + (3 : Int32)).toNatClampNeg)]) (rest := []) E hh (c_X9_soundRow l G _ _ _ _ _ _ h) (cwV 3 hts gL_law_X9_soundRow rfl rfl rfl (by decide +kernel) ⟨Nat.le_of_ble_eq_true rfl, Nat.le_of_ble_eq_true rfl⟩) (va_recv (ci := 9) E.2.1 hh.1 rfl (WW_at_28 G s272)) rfl hl.1 rfl (Nat.le_of_ble_eq_true rfl) dL_law_296 ⟨(by omega : cells + 1 ≤ 1086), (by omega : slots + 6 ≤ 10650)⟩ (fun r296 s296 H locs h hh => ?_)
        refine lv_istore (lv' := [(6, .int r296), (5, .int r272), (0, .ref b), (1, .ref (G.2.1 0)), (2, .ref (G.2.1 28)), (3, .ref (G.2.1 47)), (4, .int l4)]) hx hb dL_law_299 hl (by decide) rfl (fun ls hl => ?_)
        refine lv_aload_n hx hb dL_law_301 rfl (lv_at hl 4 rfl) ?_
        refine q_Vi (As := []) (rest := []) E hh (c_X9_thrown l G _ _  _ h) (cwV 0 hts gL_law_X9_thrown rfl rfl rfl (by decide +kernel) ⟨Nat.le_of_ble_eq_true rfl, Nat.le_of_ble_eq_true rfl⟩) (va_recv (ci := 9) E.2.1 hh.1 rfl (WW_at_28 G s296)) rfl hl.1 rfl (Nat.le_of_ble_eq_true rfl) dL_law_302 ⟨(by omega : cells + 1 ≤ 1086), (by omega : slots + 6 ≤ 10650)⟩ (fun r302 s302 H locs h hh => ?_)
        refine lv_iload hx hb dL_law_305 (lv_at hl 1 rfl) ?_
        refine lv_icmp_eq (tgt := 312) hx hb dL_law_307 (by decide) (fun c9 => ?_) (fun c9 => ?_)
        · have h := h.1 c9
          refine lv_iload hx hb dL_law_312 (lv_at hl 1 rfl) ?_
          refine lv_if_ne (tgt := 329) hx hb dL_law_314 (by decide) (fun c9 => ?_) (fun c9 => ?_)
          · have h := h.1 c9
            refine lv_goto (tgt := 1629) hx hb dL_law_329 (by decide) ?_
            refine lv_iinc (v := (l4 + 6)) (lv' := [(4, .int (l4 + 6)), (6, .int r296), (5, .int r272), (0, .ref b), (1, .ref (G.2.1 0)), (2, .ref (G.2.1 28)), (3, .ref (G.2.1 47))]) hx hb dL_law_1629 hl (k := 6) rfl rfl (by decide) rfl (fun ls hl => ?_)
            refine lv_goto (tgt := 23) hx hb dL_law_1632 (by decide) ?_
            exact ih _ _ _ _ _ _ _ h (by omega) (by omega) hh (lv_sub hl [3, 4, 5, 6, 0] rfl)
          · have h := h.2 c9
            refine lv_aload_n hx hb dL_law_317 rfl (lv_at hl 5 rfl) ?_
            refine lv_iconst (v := (0 : Int32)) hx hb dL_law_318 (by decide) ?_
            refine q_lald E hh 47 (WW_at_47 G s302) (vp_in_nI (n := 0) (by decide) (by decide)) dL_law_319 ?_
            refine lv_iload hx hb dL_law_320 (lv_at hl 0 rfl) ?_
            refine lv_i2l (v := r296.toInt64) hx hb dL_law_322 rfl ?_
            refine W.lcmp hx hb dL_law_323 ?_
            refine lv_if_eq (tgt := 329) hx hb dL_law_324 (by decide) (fun c9 => ?_) (fun c9 => ?_)
            · have h := h.1 c9
              refine lv_goto (tgt := 1629) hx hb dL_law_329 (by decide) ?_
              refine lv_iinc (v := (l4 + 6)) (lv' := [(4, .int (l4 + 6)), (6, .int r296), (5, .int r272), (0, .ref b), (1, .ref (G.2.1 0)), (2, .ref (G.2.1 28)), (3, .ref (G.2.1 47))]) hx hb dL_law_1629 hl (k := 6) rfl rfl (by decide) rfl (fun ls hl => ?_)
              refine lv_goto (tgt := 23) hx hb dL_law_1632 (by decide) ?_
              exact ih _ _ _ _ _ _ _ h (by omega) (by omega) hh (lv_sub hl [3, 4, 5, 6, 0] rfl)
            · have h := h.2 c9
              exact h.elim
        · have h := h.2 c9
          exact h.elim
      have h := h.2 c9_1
      by_cases c9_2 : ((xs l4.toNatClampNeg) &&& (31 : Int32)) = (2 : Int32)
      · have h := h.1 c9_2
        refine lv_tableIn (tgt := 332) hx hb dL_law_40 (by rw [c9_2]; decide) (by rw [c9_2]; decide) (by rw [c9_2] <;> rfl) (by decide) ?_
        refine lv_aload_n hx hb dL_law_332 rfl (lv_at hl 1 rfl) ?_
        refine lv_aload_n hx hb dL_law_333 rfl (lv_at hl 0 rfl) ?_
        refine lv_iload hx hb dL_law_334 (lv_at hl 4 rfl) ?_
        refine lv_iconst (v := (1 : Int32)) hx hb dL_law_336 (by decide) ?_
        refine lv_iadd hx hb dL_law_337 ?_
        obtain ⟨h0, h⟩ := h
        refine va_sld hx hb hX hbl hbA hh.2 h0 dL_law_338 ?_
        refine lv_aload_n hx hb dL_law_339 rfl (lv_at hl 0 rfl) ?_
        refine lv_iload hx hb dL_law_340 (lv_at hl 4 rfl) ?_
        refine lv_iconst (v := (2 : Int32)) hx hb dL_law_342 (by decide) ?_
        refine lv_iadd hx hb dL_law_343 ?_
        obtain ⟨h0, h⟩ := h
        refine va_sld hx hb hX hbl hbA hh.2 h0 dL_law_344 ?_
        refine lv_if_eq (tgt := 352) hx hb dL_law_345 (by decide) (fun c9 => ?_) (fun c9 => ?_)
        · have h := h.1 c9
          refine lv_iconst (v := (0 : Int32)) hx hb dL_law_352 (by decide) ?_
          refine lv_aload_n hx hb dL_law_353 rfl (lv_at hl 3 rfl) ?_
          refine q_SL (As := [.ref (G.2.1 0), .int (xs (l4 + (1 : Int32)).toNatClampNeg), .int (0 : Int32), .ref (G.2.1 47)]) (rest := []) E hh (c_L_crack l G _ _ _ _ _ hst h) (vx_cwSW 4 hts gL_law_L_crack rfl rfl rfl (by decide +kernel) ⟨Nat.le_of_ble_eq_true rfl, Nat.le_of_ble_eq_true rfl⟩) rfl hl.1 rfl (Nat.le_of_ble_eq_true rfl) dL_law_354 ⟨(by omega : cells + 1 ≤ 1086), (by omega : slots + 6 ≤ 10650)⟩ (fun r354 s354 H locs h hh => ?_)
          refine lv_istore (lv' := [(5, .int r354), (0, .ref b), (1, .ref (G.2.1 0)), (2, .ref (G.2.1 28)), (3, .ref (G.2.1 47)), (4, .int l4)]) hx hb dL_law_357 hl (by decide) rfl (fun ls hl => ?_)
          refine lv_aload_n hx hb dL_law_359 rfl (lv_at hl 3 rfl) ?_
          refine lv_aload_n hx hb dL_law_360 rfl (lv_at hl 1 rfl) ?_
          refine lv_iload hx hb dL_law_361 (lv_at hl 5 rfl) ?_
          refine lv_iconst (v := (1 : Int32)) hx hb dL_law_363 (by decide) ?_
          refine lv_iadd hx hb dL_law_364 ?_
          obtain ⟨h0, h⟩ := h
          refine va_sld hx hb hX hbl hbA hh.2 h0 dL_law_365 ?_
          refine lv_aload_n hx hb dL_law_366 rfl (lv_at hl 1 rfl) ?_
          refine lv_iload hx hb dL_law_367 (lv_at hl 5 rfl) ?_
          refine lv_iconst (v := (2 : Int32)) hx hb dL_law_369 (by decide) ?_
          refine lv_iadd hx hb dL_law_370 ?_
          obtain ⟨h0, h⟩ := h
          refine va_sld hx hb hX hbl hbA hh.2 h0 dL_law_371 ?_
          refine lv_if_eq (tgt := 379) hx hb dL_law_372 (by decide) (fun c9 => ?_) (fun c9 => ?_)
          · have h := h.1 c9
            refine lv_iconst (v := (0 : Int32)) hx hb dL_law_379 (by decide) ?_
            refine q_Vi (As := [.int (xs (l4 + (1 : Int32)).toNatClampNeg), .int (0 : Int32)]) (rest := []) E hh (c_X9_crack l G _ _ _ _ _ h) (cwV 2 hts gL_law_X9_crack rfl rfl rfl (by decide +kernel) ⟨Nat.le_of_ble_eq_true rfl, Nat.le_of_ble_eq_true rfl⟩) (va_recv (ci := 9) E.2.1 hh.1 rfl (WW_at_28 G s354)) rfl hl.1 rfl (Nat.le_of_ble_eq_true rfl) dL_law_380 ⟨(by omega : cells + 1 ≤ 1086), (by omega : slots + 6 ≤ 10650)⟩ (fun r380 s380 H locs h hh => ?_)
            refine lv_istore (lv' := [(6, .int r380), (5, .int r354), (0, .ref b), (1, .ref (G.2.1 0)), (2, .ref (G.2.1 28)), (3, .ref (G.2.1 47)), (4, .int l4)]) hx hb dL_law_383 hl (by decide) rfl (fun ls hl => ?_)
            refine lv_aload_n hx hb dL_law_385 rfl (lv_at hl 4 rfl) ?_
            refine q_Vi (As := []) (rest := []) E hh (c_X9_thrown l G _ _  _ h) (cwV 0 hts gL_law_X9_thrown rfl rfl rfl (by decide +kernel) ⟨Nat.le_of_ble_eq_true rfl, Nat.le_of_ble_eq_true rfl⟩) (va_recv (ci := 9) E.2.1 hh.1 rfl (WW_at_28 G s380)) rfl hl.1 rfl (Nat.le_of_ble_eq_true rfl) dL_law_386 ⟨(by omega : cells + 1 ≤ 1086), (by omega : slots + 6 ≤ 10650)⟩ (fun r386 s386 H locs h hh => ?_)
            refine lv_iload hx hb dL_law_389 (lv_at hl 1 rfl) ?_
            refine lv_icmp_eq (tgt := 396) hx hb dL_law_391 (by decide) (fun c9 => ?_) (fun c9 => ?_)
            · have h := h.1 c9
              refine lv_iload hx hb dL_law_396 (lv_at hl 1 rfl) ?_
              refine lv_if_ne (tgt := 420) hx hb dL_law_398 (by decide) (fun c9 => ?_) (fun c9 => ?_)
              · have h := h.1 c9
                refine lv_goto (tgt := 1629) hx hb dL_law_420 (by decide) ?_
                refine lv_iinc (v := (l4 + 6)) (lv' := [(4, .int (l4 + 6)), (6, .int r380), (5, .int r354), (0, .ref b), (1, .ref (G.2.1 0)), (2, .ref (G.2.1 28)), (3, .ref (G.2.1 47))]) hx hb dL_law_1629 hl (k := 6) rfl rfl (by decide) rfl (fun ls hl => ?_)
                refine lv_goto (tgt := 23) hx hb dL_law_1632 (by decide) ?_
                exact ih _ _ _ _ _ _ _ h (by omega) (by omega) hh (lv_sub hl [3, 4, 5, 6, 0] rfl)
              · have h := h.2 c9
                refine lv_aload_n hx hb dL_law_401 rfl (lv_at hl 5 rfl) ?_
                refine lv_iconst (v := (0 : Int32)) hx hb dL_law_402 (by decide) ?_
                refine q_lald E hh 47 (WW_at_47 G s386) (vp_in_nI (n := 0) (by decide) (by decide)) dL_law_403 ?_
                refine lv_iload hx hb dL_law_404 (lv_at hl 0 rfl) ?_
                refine lv_if_eq (tgt := 413) hx hb dL_law_406 (by decide) (fun c9 => ?_) (fun c9 => ?_)
                · have h := h.1 c9
                  refine lv_lconst (v := (0 : Int64)) hx hb dL_law_413 (by decide) ?_
                  refine W.lcmp hx hb dL_law_414 ?_
                  refine lv_if_eq (tgt := 420) hx hb dL_law_415 (by decide) (fun c9 => ?_) (fun c9 => ?_)
                  · have h := h.1 c9
                    refine lv_goto (tgt := 1629) hx hb dL_law_420 (by decide) ?_
                    refine lv_iinc (v := (l4 + 6)) (lv' := [(4, .int (l4 + 6)), (6, .int r380), (5, .int r354), (0, .ref b), (1, .ref (G.2.1 0)), (2, .ref (G.2.1 28)), (3, .ref (G.2.1 47))]) hx hb dL_law_1629 hl (k := 6) rfl rfl (by decide) rfl (fun ls hl => ?_)
                    refine lv_goto (tgt := 23) hx hb dL_law_1632 (by decide) ?_
                    exact ih _ _ _ _ _ _ _ h (by omega) (by omega) hh (lv_sub hl [3, 4, 5, 6, 0] rfl)
                  · have h := h.2 c9
                    exact h.elim
                · have h := h.2 c9
                  refine lv_lconst (v := (1 : Int64)) hx hb dL_law_409 (by decide) ?_
                  refine lv_goto (tgt := 414) hx hb dL_law_410 (by decide) ?_
                  refine W.lcmp hx hb dL_law_414 ?_
                  refine lv_if_eq (tgt := 420) hx hb dL_law_415 (by decide) (fun c9 => ?_) (fun c9 => ?_)
                  · have h := h.1 c9
                    refine lv_goto (tgt := 1629) hx hb dL_law_420 (by decide) ?_
                    refine lv_iinc (v := (l4 + 6)) (lv' := [(4, .int (l4 + 6)), (6, .int r380), (5, .int r354), (0, .ref b), (1, .ref (G.2.1 0)), (2, .ref (G.2.1 28)), (3, .ref (G.2.1 47))]) hx hb dL_law_1629 hl (k := 6) rfl rfl (by decide) rfl (fun ls hl => ?_)
                    refine lv_goto (tgt := 23) hx hb dL_law_1632 (by decide) ?_
                    exact ih _ _ _ _ _ _ _ h (by omega) (by omega) hh (lv_sub hl [3, 4, 5, 6, 0] rfl)
                  · have h := h.2 c9
                    exact h.elim
            · have h := h.2 c9
              exact h.elim
          · have h := h.2 c9
            refine lv_iconst (v := (1 : Int32)) hx hb dL_law_375 (by decide) ?_
            refine lv_goto (tgt := 380) hx hb dL_law_376 (by decide) ?_
            refine q_Vi (As := [.int (xs (l4 + (1 : Int32)).toNatClampNeg), .int (1 : Int32)]) (rest := []) E hh (c_X9_crack l G _ _ _ _ _ h) (cwV 2 hts gL_law_X9_crack rfl rfl rfl (by decide +kernel) ⟨Nat.le_of_ble_eq_true rfl, Nat.le_of_ble_eq_true rfl⟩) (va_recv (ci := 9) E.2.1 hh.1 rfl (WW_at_28 G s354)) rfl hl.1 rfl (Nat.le_of_ble_eq_true rfl) dL_law_380 ⟨(by omega : cells + 1 ≤ 1086), (by omega : slots + 6 ≤ 10650)⟩ (fun r380 s380 H locs h hh => ?_)
            refine lv_istore (lv' := [(6, .int r380), (5, .int r354), (0, .ref b), (1, .ref (G.2.1 0)), (2, .ref (G.2.1 28)), (3, .ref (G.2.1 47)), (4, .int l4)]) hx hb dL_law_383 hl (by decide) rfl (fun ls hl => ?_)
            refine lv_aload_n hx hb dL_law_385 rfl (lv_at hl 4 rfl) ?_
            refine q_Vi (As := []) (rest := []) E hh (c_X9_thrown l G _ _  _ h) (cwV 0 hts gL_law_X9_thrown rfl rfl rfl (by decide +kernel) ⟨Nat.le_of_ble_eq_true rfl, Nat.le_of_ble_eq_true rfl⟩) (va_recv (ci := 9) E.2.1 hh.1 rfl (WW_at_28 G s380)) rfl hl.1 rfl (Nat.le_of_ble_eq_true rfl) dL_law_386 ⟨(by omega : cells + 1 ≤ 1086), (by omega : slots + 6 ≤ 10650)⟩ (fun r386 s386 H locs h hh => ?_)
            refine lv_iload hx hb dL_law_389 (lv_at hl 1 rfl) ?_
            refine lv_icmp_eq (tgt := 396) hx hb dL_law_391 (by decide) (fun c9 => ?_) (fun c9 => ?_)
            · have h := h.1 c9
              refine lv_iload hx hb dL_law_396 (lv_at hl 1 rfl) ?_
              refine lv_if_ne (tgt := 420) hx hb dL_law_398 (by decide) (fun c9 => ?_) (fun c9 => ?_)
              · have h := h.1 c9
                refine lv_goto (tgt := 1629) hx hb dL_law_420 (by decide) ?_
                refine lv_iinc (v := (l4 + 6)) (lv' := [(4, .int (l4 + 6)), (6, .int r380), (5, .int r354), (0, .ref b), (1, .ref (G.2.1 0)), (2, .ref (G.2.1 28)), (3, .ref (G.2.1 47))]) hx hb dL_law_1629 hl (k := 6) rfl rfl (by decide) rfl (fun ls hl => ?_)
                refine lv_goto (tgt := 23) hx hb dL_law_1632 (by decide) ?_
                exact ih _ _ _ _ _ _ _ h (by omega) (by omega) hh (lv_sub hl [3, 4, 5, 6, 0] rfl)
              · have h := h.2 c9
                refine lv_aload_n hx hb dL_law_401 rfl (lv_at hl 5 rfl) ?_
                refine lv_iconst (v := (0 : Int32)) hx hb dL_law_402 (by decide) ?_
                refine q_lald E hh 47 (WW_at_47 G s386) (vp_in_nI (n := 0) (by decide) (by decide)) dL_law_403 ?_
                refine lv_iload hx hb dL_law_404 (lv_at hl 0 rfl) ?_
                refine lv_if_eq (tgt := 413) hx hb dL_law_406 (by decide) (fun c9 => ?_) (fun c9 => ?_)
                · have h := h.1 c9
                  refine lv_lconst (v := (0 : Int64)) hx hb dL_law_413 (by decide) ?_
                  refine W.lcmp hx hb dL_law_414 ?_
                  refine lv_if_eq (tgt := 420) hx hb dL_law_415 (by decide) (fun c9 => ?_) (fun c9 => ?_)
                  · have h := h.1 c9
                    refine lv_goto (tgt := 1629) hx hb dL_law_420 (by decide) ?_
                    refine lv_iinc (v := (l4 + 6)) (lv' := [(4, .int (l4 + 6)), (6, .int r380), (5, .int r354), (0, .ref b), (1, .ref (G.2.1 0)), (2, .ref (G.2.1 28)), (3, .ref (G.2.1 47))]) hx hb dL_law_1629 hl (k := 6) rfl rfl (by decide) rfl (fun ls hl => ?_)
                    refine lv_goto (tgt := 23) hx hb dL_law_1632 (by decide) ?_
                    exact ih _ _ _ _ _ _ _ h (by omega) (by omega) hh (lv_sub hl [3, 4, 5, 6, 0] rfl)
                  · have h := h.2 c9
                    exact h.elim
                · have h := h.2 c9
                  refine lv_lconst (v := (1 : Int64)) hx hb dL_law_409 (by decide) ?_
                  refine lv_goto (tgt := 414) hx hb dL_law_410 (by decide) ?_
                  refine W.lcmp hx hb dL_law_414 ?_
                  refine lv_if_eq (tgt := 420) hx hb dL_law_415 (by decide) (fun c9 => ?_) (fun c9 => ?_)
                  · have h := h.1 c9
                    refine lv_goto (tgt := 1629) hx hb dL_law_420 (by decide) ?_
                    refine lv_iinc (v := (l4 + 6)) (lv' := [(4, .int (l4 + 6)), (6, .int r380), (5, .int r354), (0, .ref b), (1, .ref (G.2.1 0)), (2, .ref (G.2.1 28)), (3, .ref (G.2.1 47))]) hx hb dL_law_1629 hl (k := 6) rfl rfl (by decide) rfl (fun ls hl => ?_)
                    refine lv_goto (tgt := 23) hx hb dL_law_1632 (by decide) ?_
                    exact ih _ _ _ _ _ _ _ h (by omega) (by omega) hh (lv_sub hl [3, 4, 5, 6, 0] rfl)
                  · have h := h.2 c9
                    exact h.elim
            · have h := h.2 c9
              exact h.elim
        · have h := h.2 c9
          refine lv_iconst (v := (1 : Int32)) hx hb dL_law_348 (by decide) ?_
          refine lv_goto (tgt := 353) hx hb dL_law_349 (by decide) ?_
          refine lv_aload_n hx hb dL_law_353 rfl (lv_at hl 3 rfl) ?_
          refine q_SL (As := [.ref (G.2.1 0), .int (xs (l4 + (1 : Int32)).toNatClampNeg), .int (1 : Int32), .ref (G.2.1 47)]) (rest := []) E hh (c_L_crack l G _ _ _ _ _ hst h) (vx_cwSW 4 hts gL_law_L_crack rfl rfl rfl (by decide +kernel) ⟨Nat.le_of_ble_eq_true rfl, Nat.le_of_ble_eq_true rfl⟩) rfl hl.1 rfl (Nat.le_of_ble_eq_true rfl) dL_law_354 ⟨(by omega : cells + 1 ≤ 1086), (by omega : slots + 6 ≤ 10650)⟩ (fun r354 s354 H locs h hh => ?_)
          refine lv_istore (lv' := [(5, .int r354), (0, .ref b), (1, .ref (G.2.1 0)), (2, .ref (G.2.1 28)), (3, .ref (G.2.1 47)), (4, .int l4)]) hx hb dL_law_357 hl (by decide) rfl (fun ls hl => ?_)
          refine lv_aload_n hx hb dL_law_359 rfl (lv_at hl 3 rfl) ?_
          refine lv_aload_n hx hb dL_law_360 rfl (lv_at hl 1 rfl) ?_
          refine lv_iload hx hb dL_law_361 (lv_at hl 5 rfl) ?_
          refine lv_iconst (v := (1 : Int32)) hx hb dL_law_363 (by decide) ?_
          refine lv_iadd hx hb dL_law_364 ?_
          obtain ⟨h0, h⟩ := h
          refine va_sld hx hb hX hbl hbA hh.2 h0 dL_law_365 ?_
          refine lv_aload_n hx hb dL_law_366 rfl (lv_at hl 1 rfl) ?_
          refine lv_iload hx hb dL_law_367 (lv_at hl 5 rfl) ?_
          refine lv_iconst (v := (2 : Int32)) hx hb dL_law_369 (by decide) ?_
          refine lv_iadd hx hb dL_law_370 ?_
          obtain ⟨h0, h⟩ := h
          refine va_sld hx hb hX hbl hbA hh.2 h0 dL_law_371 ?_
          refine lv_if_eq (tgt := 379) hx hb dL_law_372 (by decide) (fun c9 => ?_) (fun c9 => ?_)
          · have h := h.1 c9
            refine lv_iconst (v := (0 : Int32)) hx hb dL_law_379 (by decide) ?_
            refine q_Vi (As := [.int (xs (l4 + (1 : Int32)).toNatClampNeg), .int (0 : Int32)]) (rest := []) E hh (c_X9_crack l G _ _ _ _ _ h) (cwV 2 hts gL_law_X9_crack rfl rfl rfl (by decide +kernel) ⟨Nat.le_of_ble_eq_true rfl, Nat.le_of_ble_eq_true rfl⟩) (va_recv (ci := 9) E.2.1 hh.1 rfl (WW_at_28 G s354)) rfl hl.1 rfl (Nat.le_of_ble_eq_true rfl) dL_law_380 ⟨(by omega : cells + 1 ≤ 1086), (by omega : slots + 6 ≤ 10650)⟩ (fun r380 s380 H locs h hh => ?_)
            refine lv_istore (lv' := [(6, .int r380), (5, .int r354), (0, .ref b), (1, .ref (G.2.1 0)), (2, .ref (G.2.1 28)), (3, .ref (G.2.1 47)), (4, .int l4)]) hx hb dL_law_383 hl (by decide) rfl (fun ls hl => ?_)
            refine lv_aload_n hx hb dL_law_385 rfl (lv_at hl 4 rfl) ?_
            refine q_Vi (As := []) (rest := []) E hh (c_X9_thrown l G _ _  _ h) (cwV 0 hts gL_law_X9_thrown rfl rfl rfl (by decide +kernel) ⟨Nat.le_of_ble_eq_true rfl, Nat.le_of_ble_eq_true rfl⟩) (va_recv (ci := 9) E.2.1 hh.1 rfl (WW_at_28 G s380)) rfl hl.1 rfl (Nat.le_of_ble_eq_true rfl) dL_law_386 ⟨(by omega : cells + 1 ≤ 1086), (by omega : slots + 6 ≤ 10650)⟩ (fun r386 s386 H locs h hh => ?_)
            refine lv_iload hx hb dL_law_389 (lv_at hl 1 rfl) ?_
            refine lv_icmp_eq (tgt := 396) hx hb dL_law_391 (by decide) (fun c9 => ?_) (fun c9 => ?_)
            · have h := h.1 c9
              refine lv_iload hx hb dL_law_396 (lv_at hl 1 rfl) ?_
              refine lv_if_ne (tgt := 420) hx hb dL_law_398 (by decide) (fun c9 => ?_) (fun c9 => ?_)
              · have h := h.1 c9
                refine lv_goto (tgt := 1629) hx hb dL_law_420 (by decide) ?_
                refine lv_iinc (v := (l4 + 6)) (lv' := [(4, .int (l4 + 6)), (6, .int r380), (5, .int r354), (0, .ref b), (1, .ref (G.2.1 0)), (2, .ref (G.2.1 28)), (3, .ref (G.2.1 47))]) hx hb dL_law_1629 hl (k := 6) rfl rfl (by decide) rfl (fun ls hl => ?_)
                refine lv_goto (tgt := 23) hx hb dL_law_1632 (by decide) ?_
                exact ih _ _ _ _ _ _ _ h (by omega) (by omega) hh (lv_sub hl [3, 4, 5, 6, 0] rfl)
              · have h := h.2 c9
                refine lv_aload_n hx hb dL_law_401 rfl (lv_at hl 5 rfl) ?_
                refine lv_iconst (v := (0 : Int32)) hx hb dL_law_402 (by decide) ?_
                refine q_lald E hh 47 (WW_at_47 G s386) (vp_in_nI (n := 0) (by decide) (by decide)) dL_law_403 ?_
                refine lv_iload hx hb dL_law_404 (lv_at hl 0 rfl) ?_
                refine lv_if_eq (tgt := 413) hx hb dL_law_406 (by decide) (fun c9 => ?_) (fun c9 => ?_)
                · have h := h.1 c9
                  refine lv_lconst (v := (0 : Int64)) hx hb dL_law_413 (by decide) ?_
                  refine W.lcmp hx hb dL_law_414 ?_
                  refine lv_if_eq (tgt := 420) hx hb dL_law_415 (by decide) (fun c9 => ?_) (fun c9 => ?_)
                  · have h := h.1 c9
                    refine lv_goto (tgt := 1629) hx hb dL_law_420 (by decide) ?_
                    refine lv_iinc (v := (l4 + 6)) (lv' := [(4, .int (l4 + 6)), (6, .int r380), (5, .int r354), (0, .ref b), (1, .ref (G.2.1 0)), (2, .ref (G.2.1 28)), (3, .ref (G.2.1 47))]) hx hb dL_law_1629 hl (k := 6) rfl rfl (by decide) rfl (fun ls hl => ?_)
                    refine lv_goto (tgt := 23) hx hb dL_law_1632 (by decide) ?_
                    exact ih _ _ _ _ _ _ _ h (by omega) (by omega) hh (lv_sub hl [3, 4, 5, 6, 0] rfl)
                  · have h := h.2 c9
                    exact h.elim
                · have h := h.2 c9
                  refine lv_lconst (v := (1 : Int64)) hx hb dL_law_409 (by decide) ?_
                  refine lv_goto (tgt := 414) hx hb dL_law_410 (by decide) ?_
                  refine W.lcmp hx hb dL_law_414 ?_
                  refine lv_if_eq (tgt := 420) hx hb dL_law_415 (by decide) (fun c9 => ?_) (fun c9 => ?_)
                  · have h := h.1 c9
                    refine lv_goto (tgt := 1629) hx hb dL_law_420 (by decide) ?_
                    refine lv_iinc (v := (l4 + 6)) (lv' := [(4, .int (l4 + 6)), (6, .int r380), (5, .int r354), (0, .ref b), (1, .ref (G.2.1 0)), (2, .ref (G.2.1 28)), (3, .ref (G.2.1 47))]) hx hb dL_law_1629 hl (k := 6) rfl rfl (by decide) rfl (fun ls hl => ?_)
                    refine lv_goto (tgt := 23) hx hb dL_law_1632 (by decide) ?_
                    exact ih _ _ _ _ _ _ _ h (by omega) (by omega) hh (lv_sub hl [3, 4, 5, 6, 0] rfl)
                  · have h := h.2 c9
                    exact h.elim
            · have h := h.2 c9
              exact h.elim
          · have h := h.2 c9
            refine lv_iconst (v := (1 : Int32)) hx hb dL_law_375 (by decide) ?_
            refine lv_goto (tgt := 380) hx hb dL_law_376 (by decide) ?_
            refine q_Vi (As := [.int (xs (l4 + (1 : Int32)).toNatClampNeg), .int (1 : Int32)]) (rest := []) E hh (c_X9_crack l G _ _ _ _ _ h) (cwV 2 hts gL_law_X9_crack rfl rfl rfl (by decide +kernel) ⟨Nat.le_of_ble_eq_true rfl, Nat.le_of_ble_eq_true rfl⟩) (va_recv (ci := 9) E.2.1 hh.1 rfl (WW_at_28 G s354)) rfl hl.1 rfl (Nat.le_of_ble_eq_true rfl) dL_law_380 ⟨(by omega : cells + 1 ≤ 1086), (by omega : slots + 6 ≤ 10650)⟩ (fun r380 s380 H locs h hh => ?_)
            refine lv_istore (lv' := [(6, .int r380), (5, .int r354), (0, .ref b), (1, .ref (G.2.1 0)), (2, .ref (G.2.1 28)), (3, .ref (G.2.1 47)), (4, .int l4)]) hx hb dL_law_383 hl (by decide) rfl (fun ls hl => ?_)
            refine lv_aload_n hx hb dL_law_385 rfl (lv_at hl 4 rfl) ?_
            refine q_Vi (As := []) (rest := []) E hh (c_X9_thrown l G _ _  _ h) (cwV 0 hts gL_law_X9_thrown rfl rfl rfl (by decide +kernel) ⟨Nat.le_of_ble_eq_true rfl, Nat.le_of_ble_eq_true rfl⟩) (va_recv (ci := 9) E.2.1 hh.1 rfl (WW_at_28 G s380)) rfl hl.1 rfl (Nat.le_of_ble_eq_true rfl) dL_law_386 ⟨(by omega : cells + 1 ≤ 1086), (by omega : slots + 6 ≤ 10650)⟩ (fun r386 s386 H locs h hh => ?_)
            refine lv_iload hx hb dL_law_389 (lv_at hl 1 rfl) ?_
            refine lv_icmp_eq (tgt := 396) hx hb dL_law_391 (by decide) (fun c9 => ?_) (fun c9 => ?_)
            · have h := h.1 c9
              refine lv_iload hx hb dL_law_396 (lv_at hl 1 rfl) ?_
              refine lv_if_ne (tgt := 420) hx hb dL_law_398 (by decide) (fun c9 => ?_) (fun c9 => ?_)
              · have h := h.1 c9
                refine lv_goto (tgt := 1629) hx hb dL_law_420 (by decide) ?_
                refine lv_iinc (v := (l4 + 6)) (lv' := [(4, .int (l4 + 6)), (6, .int r380), (5, .int r354), (0, .ref b), (1, .ref (G.2.1 0)), (2, .ref (G.2.1 28)), (3, .ref (G.2.1 47))]) hx hb dL_law_1629 hl (k := 6) rfl rfl (by decide) rfl (fun ls hl => ?_)
                refine lv_goto (tgt := 23) hx hb dL_law_1632 (by decide) ?_
                exact ih _ _ _ _ _ _ _ h (by omega) (by omega) hh (lv_sub hl [3, 4, 5, 6, 0] rfl)
              · have h := h.2 c9
                refine lv_aload_n hx hb dL_law_401 rfl (lv_at hl 5 rfl) ?_
                refine lv_iconst (v := (0 : Int32)) hx hb dL_law_402 (by decide) ?_
                refine q_lald E hh 47 (WW_at_47 G s386) (vp_in_nI (n := 0) (by decide) (by decide)) dL_law_403 ?_
                refine lv_iload hx hb dL_law_404 (lv_at hl 0 rfl) ?_
                refine lv_if_eq (tgt := 413) hx hb dL_law_406 (by decide) (fun c9 => ?_) (fun c9 => ?_)
                · have h := h.1 c9
                  refine lv_lconst (v := (0 : Int64)) hx hb dL_law_413 (by decide) ?_
                  refine W.lcmp hx hb dL_law_414 ?_
                  refine lv_if_eq (tgt := 420) hx hb dL_law_415 (by decide) (fun c9 => ?_) (fun c9 => ?_)
                  · have h := h.1 c9
                    refine lv_goto (tgt := 1629) hx hb dL_law_420 (by decide) ?_
                    refine lv_iinc (v := (l4 + 6)) (lv' := [(4, .int (l4 + 6)), (6, .int r380), (5, .int r354), (0, .ref b), (1, .ref (G.2.1 0)), (2, .ref (G.2.1 28)), (3, .ref (G.2.1 47))]) hx hb dL_law_1629 hl (k := 6) rfl rfl (by decide) rfl (fun ls hl => ?_)
                    refine lv_goto (tgt := 23) hx hb dL_law_1632 (by decide) ?_
                    exact ih _ _ _ _ _ _ _ h (by omega) (by omega) hh (lv_sub hl [3, 4, 5, 6, 0] rfl)
                  · have h := h.2 c9
                    exact h.elim
                · have h := h.2 c9
                  refine lv_lconst (v := (1 : Int64)) hx hb dL_law_409 (by decide) ?_
                  refine lv_goto (tgt := 414) hx hb dL_law_410 (by decide) ?_
                  refine W.lcmp hx hb dL_law_414 ?_
                  refine lv_if_eq (tgt := 420) hx hb dL_law_415 (by decide) (fun c9 => ?_) (fun c9 => ?_)
                  · have h := h.1 c9
                    refine lv_goto (tgt := 1629) hx hb dL_law_420 (by decide) ?_
                    refine lv_iinc (v := (l4 + 6)) (lv' := [(4, .int (l4 + 6)), (6, .int r380), (5, .int r354), (0, .ref b), (1, .ref (G.2.1 0)), (2, .ref (G.2.1 28)), (3, .ref (G.2.1 47))]) hx hb dL_law_1629 hl (k := 6) rfl rfl (by decide) rfl (fun ls hl => ?_)
                    refine lv_goto (tgt := 23) hx hb dL_law_1632 (by decide) ?_
                    exact ih _ _ _ _ _ _ _ h (by omega) (by omega) hh (lv_sub hl [3, 4, 5, 6, 0] rfl)
                  · have h := h.2 c9
                    exact h.elim
            · have h := h.2 c9
              exact h.elim
      have h := h.2 c9_2
      by_cases c9_3 : ((xs l4.toNatClampNeg) &&& (31 : Int32)) = (3 : Int32)
      · have h := h.1 c9_3
        refine lv_tableIn (tgt := 423) hx hb dL_law_40 (by rw [c9_3]; decide) (by rw [c9_3]; decide) (by rw [c9_3] <;> rfl) (by decide) ?_
        refine lv_aload_n hx hb dL_law_423 rfl (lv_at hl 1 rfl) ?_
        refine lv_aload_n hx hb dL_law_424 rfl (lv_at hl 0 rfl) ?_
        refine lv_iload hx hb dL_law_425 (lv_at hl 4 rfl) ?_
        refine lv_iconst (v := (1 : Int32)) hx hb dL_law_427 (by decide) ?_
        refine lv_iadd hx hb dL_law_428 ?_
        obtain ⟨h0, h⟩ := h
        refine va_sld hx hb hX hbl hbA hh.2 h0 dL_law_429 ?_
        refine lv_aload_n hx hb dL_law_430 rfl (lv_at hl 3 rfl) ?_
        refine q_SL (As := [.ref (G.2.1 0), .int (xs (l4 + (1 : Int32)).toNatClampNeg), .ref (G.2.1 47)]) (rest := []) E hh (c_L_hour l G _ _ _ _ hst h) (vx_cwSW 3 hts gL_law_L_hour rfl rfl rfl (by decide +kernel) ⟨Nat.le_of_ble_eq_true rfl, Nat.le_of_ble_eq_true rfl⟩) rfl hl.1 rfl (Nat.le_of_ble_eq_true rfl) dL_law_431 ⟨(by omega : cells + 1 ≤ 1086), (by omega : slots + 6 ≤ 10650)⟩ (fun r431 s431 H locs h hh => ?_)
        refine lv_istore (lv' := [(5, .int r431), (0, .ref b), (1, .ref (G.2.1 0)), (2, .ref (G.2.1 28)), (3, .ref (G.2.1 47)), (4, .int l4)]) hx hb dL_law_434 hl (by decide) rfl (fun ls hl => ?_)
        refine lv_aload_n hx hb dL_law_436 rfl (lv_at hl 3 rfl) ?_
        refine lv_aload_n hx hb dL_law_437 rfl (lv_at hl 1 rfl) ?_
        refine lv_iload hx hb dL_law_438 (lv_at hl 5 rfl) ?_
        refine lv_iconst (v := (1 : Int32)) hx hb dL_law_440 (by decide) ?_
        refine lv_iadd hx hb dL_law_441 ?_
        obtain ⟨h0, h⟩ := h
        refine va_sld hx hb hX hbl hbA hh.2 h0 dL_law_442 ?_
        refine q_Vi (As := [.int (xs (l4 + (1 : Int32)).toNatClampNeg)]) (rest := []) E hh (c_X9_hour l G _ _ _ _ h) (cwV 1 hts gL_law_X9_hour rfl rfl rfl (by decide +kernel) ⟨Nat.le_of_ble_eq_true rfl, Nat.le_of_ble_eq_true rfl⟩) (va_recv (ci := 9) E.2.1 hh.1 rfl (WW_at_28 G s431)) rfl hl.1 rfl (Nat.le_of_ble_eq_true rfl) dL_law_443 ⟨(by omega : cells + 1 ≤ 1086), (by omega : slots + 6 ≤ 10650)⟩ (fun r443 s443 H locs h hh => ?_)
        refine lv_istore (lv' := [(6, .int r443), (5, .int r431), (0, .ref b), (1, .ref (G.2.1 0)), (2, .ref (G.2.1 28)), (3, .ref (G.2.1 47)), (4, .int l4)]) hx hb dL_law_446 hl (by decide) rfl (fun ls hl => ?_)
        refine lv_aload_n hx hb dL_law_448 rfl (lv_at hl 4 rfl) ?_
        refine q_Vi (As := []) (rest := []) E hh (c_X9_thrown l G _ _  _ h) (cwV 0 hts gL_law_X9_thrown rfl rfl rfl (by decide +kernel) ⟨Nat.le_of_ble_eq_true rfl, Nat.le_of_ble_eq_true rfl⟩) (va_recv (ci := 9) E.2.1 hh.1 rfl (WW_at_28 G s443)) rfl hl.1 rfl (Nat.le_of_ble_eq_true rfl) dL_law_449 ⟨(by omega : cells + 1 ≤ 1086), (by omega : slots + 6 ≤ 10650)⟩ (fun r449 s449 H locs h hh => ?_)
        refine lv_iload hx hb dL_law_452 (lv_at hl 1 rfl) ?_
        refine lv_icmp_eq (tgt := 459) hx hb dL_law_454 (by decide) (fun c9 => ?_) (fun c9 => ?_)
        · have h := h.1 c9
          refine lv_iload hx hb dL_law_459 (lv_at hl 1 rfl) ?_
          refine lv_if_ne (tgt := 476) hx hb dL_law_461 (by decide) (fun c9 => ?_) (fun c9 => ?_)
          · have h := h.1 c9
            refine lv_goto (tgt := 1629) hx hb dL_law_476 (by decide) ?_
            refine lv_iinc (v := (l4 + 6)) (lv' := [(4, .int (l4 + 6)), (6, .int r443), (5, .int r431), (0, .ref b), (1, .ref (G.2.1 0)), (2, .ref (G.2.1 28)), (3, .ref (G.2.1 47))]) hx hb dL_law_1629 hl (k := 6) rfl rfl (by decide) rfl (fun ls hl => ?_)
            refine lv_goto (tgt := 23) hx hb dL_law_1632 (by decide) ?_
            exact ih _ _ _ _ _ _ _ h (by omega) (by omega) hh (lv_sub hl [3, 4, 5, 6, 0] rfl)
          · have h := h.2 c9
            refine lv_aload_n hx hb dL_law_464 rfl (lv_at hl 5 rfl) ?_
            refine lv_iconst (v := (0 : Int32)) hx hb dL_law_465 (by decide) ?_
            refine q_lald E hh 47 (WW_at_47 G s449) (vp_in_nI (n := 0) (by decide) (by decide)) dL_law_466 ?_
            refine lv_iload hx hb dL_law_467 (lv_at hl 0 rfl) ?_
            refine lv_i2l (v := r443.toInt64) hx hb dL_law_469 rfl ?_
            refine W.lcmp hx hb dL_law_470 ?_
            refine lv_if_eq (tgt := 476) hx hb dL_law_471 (by decide) (fun c9 => ?_) (fun c9 => ?_)
            · have h := h.1 c9
              refine lv_goto (tgt := 1629) hx hb dL_law_476 (by decide) ?_
              refine lv_iinc (v := (l4 + 6)) (lv' := [(4, .int (l4 + 6)), (6, .int r443), (5, .int r431), (0, .ref b), (1, .ref (G.2.1 0)), (2, .ref (G.2.1 28)), (3, .ref (G.2.1 47))]) hx hb dL_law_1629 hl (k := 6) rfl rfl (by decide) rfl (fun ls hl => ?_)
              refine lv_goto (tgt := 23) hx hb dL_law_1632 (by decide) ?_
              exact ih _ _ _ _ _ _ _ h (by omega) (by omega) hh (lv_sub hl [3, 4, 5, 6, 0] rfl)
            · have h := h.2 c9
              exact h.elim
        · have h := h.2 c9
          exact h.elim
      have h := h.2 c9_3
      by_cases c9_4 : ((xs l4.toNatClampNeg) &&& (31 : Int32)) = (4 : Int32)
      · have h := h.1 c9_4
        refine lv_tableIn (tgt := 479) hx hb dL_law_40 (by rw [c9_4]; decide) (by rw [c9_4]; decide) (by rw [c9_4] <;> rfl) (by decide) ?_
        refine lv_aload_n hx hb dL_law_479 rfl (lv_at hl 1 rfl) ?_
        refine lv_aload_n hx hb dL_law_480 rfl (lv_at hl 0 rfl) ?_
        refine lv_iload hx hb dL_law_481 (lv_at hl 4 rfl) ?_
        refine lv_iconst (v := (1 : Int32)) hx hb dL_law_483 (by decide) ?_
        refine lv_iadd hx hb dL_law_484 ?_
        obtain ⟨h0, h⟩ := h
        refine va_sld hx hb hX hbl hbA hh.2 h0 dL_law_485 ?_
        refine lv_aload_n hx hb dL_law_486 rfl (lv_at hl 0 rfl) ?_
        refine lv_iload hx hb dL_law_487 (lv_at hl 4 rfl) ?_
        refine lv_iconst (v := (2 : Int32)) hx hb dL_law_489 (by decide) ?_
        refine lv_iadd hx hb dL_law_490 ?_
        obtain ⟨h0, h⟩ := h
        refine va_sld hx hb hX hbl hbA hh.2 h0 dL_law_491 ?_
        refine lv_aload_n hx hb dL_law_492 rfl (lv_at hl 3 rfl) ?_
        refine q_SL (As := [.ref (G.2.1 0), .int (xs (l4 + (1 : Int32)).toNatClampNeg), .int (xs (l4 + (2 : Int32)).toNatClampNeg), .ref (G.2.1 47)]) (rest := []) E hh (c_L_ice l G _ _ _ _ _ hst h) (vx_cwSW 4 hts gL_law_L_ice rfl rfl rfl (by decide +kernel) ⟨Nat.le_of_ble_eq_true rfl, Nat.le_of_ble_eq_true rfl⟩) rfl hl.1 rfl (Nat.le_of_ble_eq_true rfl) dL_law_493 ⟨(by omega : cells + 1 ≤ 1086), (by omega : slots + 6 ≤ 10650)⟩ (fun r493 s493 H locs h hh => ?_)
        refine lv_istore (lv' := [(5, .int r493), (0, .ref b), (1, .ref (G.2.1 0)), (2, .ref (G.2.1 28)), (3, .ref (G.2.1 47)), (4, .int l4)]) hx hb dL_law_496 hl (by decide) rfl (fun ls hl => ?_)
        refine lv_aload_n hx hb dL_law_498 rfl (lv_at hl 3 rfl) ?_
        refine lv_aload_n hx hb dL_law_499 rfl (lv_at hl 1 rfl) ?_
        refine lv_iload hx hb dL_law_500 (lv_at hl 5 rfl) ?_
        refine lv_iconst (v := (1 : Int32)) hx hb dL_law_502 (by decide) ?_
        refine lv_iadd hx hb dL_law_503 ?_
        obtain ⟨h0, h⟩ := h
        refine va_sld hx hb hX hbl hbA hh.2 h0 dL_law_504 ?_
        refine lv_aload_n hx hb dL_law_505 rfl (lv_at hl 1 rfl) ?_
        refine lv_iload hx hb dL_law_506 (lv_at hl 5 rfl) ?_
        refine lv_iconst (v := (2 : Int32)) hx hb dL_law_508 (by decide) ?_
        refine lv_iadd hx hb dL_law_509 ?_
        obtain ⟨h0, h⟩ := h
        refine va_sld hx hb hX hbl hbA hh.2 h0 dL_law_510 ?_
        refine q_Vi (As := [.int (xs (l4 + (1 : Int32)).toNatClampNeg), .int (xs (l4 + (2 : Int32)).toNatClampNeg)]) (rest := []) E hh (c_X9_ice l G _ _ _ _ _ h) (cwV 2 hts gL_law_X9_ice rfl rfl rfl (by decide +kernel) ⟨Nat.le_of_ble_eq_true rfl, Nat.le_of_ble_eq_true rfl⟩) (va_recv (ci := 9) E.2.1 hh.1 rfl (WW_at_28 G s493)) rfl hl.1 rfl (Nat.le_of_ble_eq_true rfl) dL_law_511 ⟨(by omega : cells + 1 ≤ 1086), (by omega : slots + 6 ≤ 10650)⟩ (fun r511 s511 H locs h hh => ?_)
        refine lv_istore (lv' := [(6, .int r511), (5, .int r493), (0, .ref b), (1, .ref (G.2.1 0)), (2, .ref (G.2.1 28)), (3, .ref (G.2.1 47)), (4, .int l4)]) hx hb dL_law_514 hl (by decide) rfl (fun ls hl => ?_)
        refine lv_aload_n hx hb dL_law_516 rfl (lv_at hl 4 rfl) ?_
        refine q_Vi (As := []) (rest := []) E hh (c_X9_thrown l G _ _  _ h) (cwV 0 hts gL_law_X9_thrown rfl rfl rfl (by decide +kernel) ⟨Nat.le_of_ble_eq_true rfl, Nat.le_of_ble_eq_true rfl⟩) (va_recv (ci := 9) E.2.1 hh.1 rfl (WW_at_28 G s511)) rfl hl.1 rfl (Nat.le_of_ble_eq_true rfl) dL_law_517 ⟨(by omega : cells + 1 ≤ 1086), (by omega : slots + 6 ≤ 10650)⟩ (fun r517 s517 H locs h hh => ?_)
        refine lv_iload hx hb dL_law_520 (lv_at hl 1 rfl) ?_
        refine lv_icmp_eq (tgt := 527) hx hb dL_law_522 (by decide) (fun c9 => ?_) (fun c9 => ?_)
        · have h := h.1 c9
          refine lv_iload hx hb dL_law_527 (lv_at hl 1 rfl) ?_
          refine lv_if_ne (tgt := 544) hx hb dL_law_529 (by decide) (fun c9 => ?_) (fun c9 => ?_)
          · have h := h.1 c9
            refine lv_goto (tgt := 1629) hx hb dL_law_544 (by decide) ?_
            refine lv_iinc (v := (l4 + 6)) (lv' := [(4, .int (l4 + 6)), (6, .int r511), (5, .int r493), (0, .ref b), (1, .ref (G.2.1 0)), (2, .ref (G.2.1 28)), (3, .ref (G.2.1 47))]) hx hb dL_law_1629 hl (k := 6) rfl rfl (by decide) rfl (fun ls hl => ?_)
            refine lv_goto (tgt := 23) hx hb dL_law_1632 (by decide) ?_
            exact ih _ _ _ _ _ _ _ h (by omega) (by omega) hh (lv_sub hl [3, 4, 5, 6, 0] rfl)
          · have h := h.2 c9
            refine lv_aload_n hx hb dL_law_532 rfl (lv_at hl 5 rfl) ?_
            refine lv_iconst (v := (0 : Int32)) hx hb dL_law_533 (by decide) ?_
            refine q_lald E hh 47 (WW_at_47 G s517) (vp_in_nI (n := 0) (by decide) (by decide)) dL_law_534 ?_
            refine lv_iload hx hb dL_law_535 (lv_at hl 0 rfl) ?_
            refine lv_i2l (v := r511.toInt64) hx hb dL_law_537 rfl ?_
            refine W.lcmp hx hb dL_law_538 ?_
            refine lv_if_eq (tgt := 544) hx hb dL_law_539 (by decide) (fun c9 => ?_) (fun c9 => ?_)
            · have h := h.1 c9
              refine lv_goto (tgt := 1629) hx hb dL_law_544 (by decide) ?_
              refine lv_iinc (v := (l4 + 6)) (lv' := [(4, .int (l4 + 6)), (6, .int r511), (5, .int r493), (0, .ref b), (1, .ref (G.2.1 0)), (2, .ref (G.2.1 28)), (3, .ref (G.2.1 47))]) hx hb dL_law_1629 hl (k := 6) rfl rfl (by decide) rfl (fun ls hl => ?_)
              refine lv_goto (tgt := 23) hx hb dL_law_1632 (by decide) ?_
              exact ih _ _ _ _ _ _ _ h (by omega) (by omega) hh (lv_sub hl [3, 4, 5, 6, 0] rfl)
            · have h := h.2 c9
              exact h.elim
        · have h := h.2 c9
          exact h.elim
      have h := h.2 c9_4
      by_cases c9_5 : ((xs l4.toNatClampNeg) &&& (31 : Int32)) = (5 : Int32)
      · have h := h.1 c9_5
        refine lv_tableIn (tgt := 547) hx hb dL_law_40 (by rw [c9_5]; decide) (by rw [c9_5]; decide) (by rw [c9_5] <;> rfl) (by decide) ?_
        refine lv_aload_n hx hb dL_law_547 rfl (lv_at hl 1 rfl) ?_
        refine lv_aload_n hx hb dL_law_548 rfl (lv_at hl 0 rfl) ?_
        refine lv_iload hx hb dL_law_549 (lv_at hl 4 rfl) ?_
        refine lv_iconst (v := (1 : Int32)) hx hb dL_law_551 (by decide) ?_
        refine lv_iadd hx hb dL_law_552 ?_
        obtain ⟨h0, h⟩ := h
        refine va_sld hx hb hX hbl hbA hh.2 h0 dL_law_553 ?_
        refine lv_aload_n hx hb dL_law_554 rfl (lv_at hl 0 rfl) ?_
        refine lv_iload hx hb dL_law_555 (lv_at hl 4 rfl) ?_
        refine lv_iconst (v := (2 : Int32)) hx hb dL_law_557 (by decide) ?_
        refine lv_iadd hx hb dL_law_558 ?_
        obtain ⟨h0, h⟩ := h
        refine va_sld hx hb hX hbl hbA hh.2 h0 dL_law_559 ?_
        refine lv_aload_n hx hb dL_law_560 rfl (lv_at hl 3 rfl) ?_
        refine q_SL (As := [.ref (G.2.1 0), .int (xs (l4 + (1 : Int32)).toNatClampNeg), .int (xs (l4 + (2 : Int32)).toNatClampNeg), .ref (G.2.1 47)]) (rest := []) E hh (c_L_lasts l G _ _ _ _ _ hst h) (vx_cwSW 4 hts gL_law_L_lasts rfl rfl rfl (by decide +kernel) ⟨Nat.le_of_ble_eq_true rfl, Nat.le_of_ble_eq_true rfl⟩) rfl hl.1 rfl (Nat.le_of_ble_eq_true rfl) dL_law_561 ⟨(by omega : cells + 1 ≤ 1086), (by omega : slots + 6 ≤ 10650)⟩ (fun r561 s561 H locs h hh => ?_)
        refine lv_istore (lv' := [(5, .int r561), (0, .ref b), (1, .ref (G.2.1 0)), (2, .ref (G.2.1 28)), (3, .ref (G.2.1 47)), (4, .int l4)]) hx hb dL_law_564 hl (by decide) rfl (fun ls hl => ?_)
        refine lv_aload_n hx hb dL_law_566 rfl (lv_at hl 3 rfl) ?_
        refine lv_aload_n hx hb dL_law_567 rfl (lv_at hl 1 rfl) ?_
        refine lv_iload hx hb dL_law_568 (lv_at hl 5 rfl) ?_
        refine lv_iconst (v := (1 : Int32)) hx hb dL_law_570 (by decide) ?_
        refine lv_iadd hx hb dL_law_571 ?_
        obtain ⟨h0, h⟩ := h
        refine va_sld hx hb hX hbl hbA hh.2 h0 dL_law_572 ?_
        refine lv_aload_n hx hb dL_law_573 rfl (lv_at hl 1 rfl) ?_
        refine lv_iload hx hb dL_law_574 (lv_at hl 5 rfl) ?_
        refine lv_iconst (v := (2 : Int32)) hx hb dL_law_576 (by decide) ?_
        refine lv_iadd hx hb dL_law_577 ?_
        obtain ⟨h0, h⟩ := h
        refine va_sld hx hb hX hbl hbA hh.2 h0 dL_law_578 ?_
        refine q_Vi (As := [.int (xs (l4 + (1 : Int32)).toNatClampNeg), .int (xs (l4 + (2 : Int32)).toNatClampNeg)]) (rest := []) E hh (c_X9_lasts l G _ _ _ _ _ h) (cwV 2 hts gL_law_X9_lasts rfl rfl rfl (by decide +kernel) ⟨Nat.le_of_ble_eq_true rfl, Nat.le_of_ble_eq_true rfl⟩) (va_recv (ci := 9) E.2.1 hh.1 rfl (WW_at_28 G s561)) rfl hl.1 rfl (Nat.le_of_ble_eq_true rfl) dL_law_579 ⟨(by omega : cells + 1 ≤ 1086), (by omega : slots + 6 ≤ 10650)⟩ (fun r579 s579 H locs h hh => ?_)
        refine lv_istore (lv' := [(6, .int r579), (5, .int r561), (0, .ref b), (1, .ref (G.2.1 0)), (2, .ref (G.2.1 28)), (3, .ref (G.2.1 47)), (4, .int l4)]) hx hb dL_law_582 hl (by decide) rfl (fun ls hl => ?_)
        refine lv_aload_n hx hb dL_law_584 rfl (lv_at hl 4 rfl) ?_
        refine q_Vi (As := []) (rest := []) E hh (c_X9_thrown l G _ _  _ h) (cwV 0 hts gL_law_X9_thrown rfl rfl rfl (by decide +kernel) ⟨Nat.le_of_ble_eq_true rfl, Nat.le_of_ble_eq_true rfl⟩) (va_recv (ci := 9) E.2.1 hh.1 rfl (WW_at_28 G s579)) rfl hl.1 rfl (Nat.le_of_ble_eq_true rfl) dL_law_585 ⟨(by omega : cells + 1 ≤ 1086), (by omega : slots + 6 ≤ 10650)⟩ (fun r585 s585 H locs h hh => ?_)
        refine lv_iload hx hb dL_law_588 (lv_at hl 1 rfl) ?_
        refine lv_icmp_eq (tgt := 595) hx hb dL_law_590 (by decide) (fun c9 => ?_) (fun c9 => ?_)
        · have h := h.1 c9
          refine lv_iload hx hb dL_law_595 (lv_at hl 1 rfl) ?_
          refine lv_if_ne (tgt := 612) hx hb dL_law_597 (by decide) (fun c9 => ?_) (fun c9 => ?_)
          · have h := h.1 c9
            refine lv_goto (tgt := 1629) hx hb dL_law_612 (by decide) ?_
            refine lv_iinc (v := (l4 + 6)) (lv' := [(4, .int (l4 + 6)), (6, .int r579), (5, .int r561), (0, .ref b), (1, .ref (G.2.1 0)), (2, .ref (G.2.1 28)), (3, .ref (G.2.1 47))]) hx hb dL_law_1629 hl (k := 6) rfl rfl (by decide) rfl (fun ls hl => ?_)
            refine lv_goto (tgt := 23) hx hb dL_law_1632 (by decide) ?_
            exact ih _ _ _ _ _ _ _ h (by omega) (by omega) hh (lv_sub hl [3, 4, 5, 6, 0] rfl)
          · have h := h.2 c9
            refine lv_aload_n hx hb dL_law_600 rfl (lv_at hl 5 rfl) ?_
            refine lv_iconst (v := (0 : Int32)) hx hb dL_law_601 (by decide) ?_
            refine q_lald E hh 47 (WW_at_47 G s585) (vp_in_nI (n := 0) (by decide) (by decide)) dL_law_602 ?_
            refine lv_iload hx hb dL_law_603 (lv_at hl 0 rfl) ?_
            refine lv_i2l (v := r579.toInt64) hx hb dL_law_605 rfl ?_
            refine W.lcmp hx hb dL_law_606 ?_
            refine lv_if_eq (tgt := 612) hx hb dL_law_607 (by decide) (fun c9 => ?_) (fun c9 => ?_)
            · have h := h.1 c9
              refine lv_goto (tgt := 1629) hx hb dL_law_612 (by decide) ?_
              refine lv_iinc (v := (l4 + 6)) (lv' := [(4, .int (l4 + 6)), (6, .int r579), (5, .int r561), (0, .ref b), (1, .ref (G.2.1 0)), (2, .ref (G.2.1 28)), (3, .ref (G.2.1 47))]) hx hb dL_law_1629 hl (k := 6) rfl rfl (by decide) rfl (fun ls hl => ?_)
              refine lv_goto (tgt := 23) hx hb dL_law_1632 (by decide) ?_
              exact ih _ _ _ _ _ _ _ h (by omega) (by omega) hh (lv_sub hl [3, 4, 5, 6, 0] rfl)
            · have h := h.2 c9
              exact h.elim
        · have h := h.2 c9
          exact h.elim
      have h := h.2 c9_5
      by_cases c9_6 : ((xs l4.toNatClampNeg) &&& (31 : Int32)) = (6 : Int32)
      · have h := h.1 c9_6
        refine lv_tableIn (tgt := 615) hx hb dL_law_40 (by rw [c9_6]; decide) (by rw [c9_6]; decide) (by rw [c9_6] <;> rfl) (by decide) ?_
        refine lv_aload_n hx hb dL_law_615 rfl (lv_at hl 1 rfl) ?_
        refine lv_aload_n hx hb dL_law_616 rfl (lv_at hl 0 rfl) ?_
        refine lv_iload hx hb dL_law_617 (lv_at hl 4 rfl) ?_
        refine lv_iconst (v := (1 : Int32)) hx hb dL_law_619 (by decide) ?_
        refine lv_iadd hx hb dL_law_620 ?_
        obtain ⟨h0, h⟩ := h
        refine va_sld hx hb hX hbl hbA hh.2 h0 dL_law_621 ?_
        refine lv_aload_n hx hb dL_law_622 rfl (lv_at hl 3 rfl) ?_
        refine q_SL (As := [.ref (G.2.1 0), .int (xs (l4 + (1 : Int32)).toNatClampNeg), .ref (G.2.1 47)]) (rest := []) E hh (c_L_wind l G _ _ _ _ hst h) (vx_cwSW 3 hts gL_law_L_wind rfl rfl rfl (by decide +kernel) ⟨Nat.le_of_ble_eq_true rfl, Nat.le_of_ble_eq_true rfl⟩) rfl hl.1 rfl (Nat.le_of_ble_eq_true rfl) dL_law_623 ⟨(by omega : cells + 1 ≤ 1086), (by omega : slots + 6 ≤ 10650)⟩ (fun r623 s623 H locs h hh => ?_)
        refine lv_istore (lv' := [(5, .int r623), (0, .ref b), (1, .ref (G.2.1 0)), (2, .ref (G.2.1 28)), (3, .ref (G.2.1 47)), (4, .int l4)]) hx hb dL_law_626 hl (by decide) rfl (fun ls hl => ?_)
        refine lv_aload_n hx hb dL_law_628 rfl (lv_at hl 3 rfl) ?_
        refine lv_aload_n hx hb dL_law_629 rfl (lv_at hl 1 rfl) ?_
        refine lv_iload hx hb dL_law_630 (lv_at hl 5 rfl) ?_
        refine lv_iconst (v := (1 : Int32)) hx hb dL_law_632 (by decide) ?_
        refine lv_iadd hx hb dL_law_633 ?_
        obtain ⟨h0, h⟩ := h
        refine va_sld hx hb hX hbl hbA hh.2 h0 dL_law_634 ?_
        refine q_Vi (As := [.int (xs (l4 + (1 : Int32)).toNatClampNeg)]) (rest := []) E hh (c_X9_wind l G _ _ _ _ h) (cwV 1 hts gL_law_X9_wind rfl rfl rfl (by decide +kernel) ⟨Nat.le_of_ble_eq_true rfl, Nat.le_of_ble_eq_true rfl⟩) (va_recv (ci := 9) E.2.1 hh.1 rfl (WW_at_28 G s623)) rfl hl.1 rfl (Nat.le_of_ble_eq_true rfl) dL_law_635 ⟨(by omega : cells + 1 ≤ 1086), (by omega : slots + 6 ≤ 10650)⟩ (fun r635 s635 H locs h hh => ?_)
        refine lv_istore (lv' := [(6, .int r635), (5, .int r623), (0, .ref b), (1, .ref (G.2.1 0)), (2, .ref (G.2.1 28)), (3, .ref (G.2.1 47)), (4, .int l4)]) hx hb dL_law_638 hl (by decide) rfl (fun ls hl => ?_)
        refine lv_aload_n hx hb dL_law_640 rfl (lv_at hl 4 rfl) ?_
        refine q_Vi (As := []) (rest := []) E hh (c_X9_thrown l G _ _  _ h) (cwV 0 hts gL_law_X9_thrown rfl rfl rfl (by decide +kernel) ⟨Nat.le_of_ble_eq_true rfl, Nat.le_of_ble_eq_true rfl⟩) (va_recv (ci := 9) E.2.1 hh.1 rfl (WW_at_28 G s635)) rfl hl.1 rfl (Nat.le_of_ble_eq_true rfl) dL_law_641 ⟨(by omega : cells + 1 ≤ 1086), (by omega : slots + 6 ≤ 10650)⟩ (fun r641 s641 H locs h hh => ?_)
        refine lv_iload hx hb dL_law_644 (lv_at hl 1 rfl) ?_
        refine lv_icmp_eq (tgt := 651) hx hb dL_law_646 (by decide) (fun c9 => ?_) (fun c9 => ?_)
        · have h := h.1 c9
          refine lv_iload hx hb dL_law_651 (lv_at hl 1 rfl) ?_
          refine lv_if_ne (tgt := 668) hx hb dL_law_653 (by decide) (fun c9 => ?_) (fun c9 => ?_)
          · have h := h.1 c9
            refine lv_goto (tgt := 1629) hx hb dL_law_668 (by decide) ?_
            refine lv_iinc (v := (l4 + 6)) (lv' := [(4, .int (l4 + 6)), (6, .int r635), (5, .int r623), (0, .ref b), (1, .ref (G.2.1 0)), (2, .ref (G.2.1 28)), (3, .ref (G.2.1 47))]) hx hb dL_law_1629 hl (k := 6) rfl rfl (by decide) rfl (fun ls hl => ?_)
            refine lv_goto (tgt := 23) hx hb dL_law_1632 (by decide) ?_
            exact ih _ _ _ _ _ _ _ h (by omega) (by omega) hh (lv_sub hl [3, 4, 5, 6, 0] rfl)
          · have h := h.2 c9
            refine lv_aload_n hx hb dL_law_656 rfl (lv_at hl 5 rfl) ?_
            refine lv_iconst (v := (0 : Int32)) hx hb dL_law_657 (by decide) ?_
            refine q_lald E hh 47 (WW_at_47 G s641) (vp_in_nI (n := 0) (by decide) (by decide)) dL_law_658 ?_
            refine lv_iload hx hb dL_law_659 (lv_at hl 0 rfl) ?_
            refine lv_i2l (v := r635.toInt64) hx hb dL_law_661 rfl ?_
            refine W.lcmp hx hb dL_law_662 ?_
            refine lv_if_eq (tgt := 668) hx hb dL_law_663 (by decide) (fun c9 => ?_) (fun c9 => ?_)
            · have h := h.1 c9
              refine lv_goto (tgt := 1629) hx hb dL_law_668 (by decide) ?_
              refine lv_iinc (v := (l4 + 6)) (lv' := [(4, .int (l4 + 6)), (6, .int r635), (5, .int r623), (0, .ref b), (1, .ref (G.2.1 0)), (2, .ref (G.2.1 28)), (3, .ref (G.2.1 47))]) hx hb dL_law_1629 hl (k := 6) rfl rfl (by decide) rfl (fun ls hl => ?_)
              refine lv_goto (tgt := 23) hx hb dL_law_1632 (by decide) ?_
              exact ih _ _ _ _ _ _ _ h (by omega) (by omega) hh (lv_sub hl [3, 4, 5, 6, 0] rfl)
            · have h := h.2 c9
              exact h.elim
        · have h := h.2 c9
          exact h.elim
      have h := h.2 c9_6
      by_cases c9_7 : ((xs l4.toNatClampNeg) &&& (31 : Int32)) = (7 : Int32)
      · have h := h.1 c9_7
        refine lv_tableIn (tgt := 671) hx hb dL_law_40 (by rw [c9_7]; decide) (by rw [c9_7]; decide) (by rw [c9_7] <;> rfl) (by decide) ?_
        refine lv_aload_n hx hb dL_law_671 rfl (lv_at hl 1 rfl) ?_
        refine q_Vi (As := []) (rest := []) E hh (c_X8_course l G _ _  _ h) (cwV 0 hts gL_law_X8_course rfl rfl rfl (by decide +kernel) ⟨Nat.le_of_ble_eq_true rfl, Nat.le_of_ble_eq_true rfl⟩) (va_recv (ci := 8) E.2.1 hh.1 rfl (WW_at_0 G σ)) rfl hl.1 rfl (Nat.le_of_ble_eq_true rfl) dL_law_672 ⟨(by omega : cells ≤ 1086), (by omega : slots ≤ 10650)⟩ (fun r672 s672 H locs h hh => ?_)
        refine lv_aload_n hx hb dL_law_675 rfl (lv_at hl 2 rfl) ?_
        refine q_Vi (As := []) (rest := [.int r672]) E hh (c_X9_course l G _ _  _ h) (cwV 0 hts gL_law_X9_course rfl rfl rfl (by decide +kernel) ⟨Nat.le_of_ble_eq_true rfl, Nat.le_of_ble_eq_true rfl⟩) (va_recv (ci := 9) E.2.1 hh.1 rfl (WW_at_28 G s672)) rfl hl.1 rfl (Nat.le_of_ble_eq_true rfl) dL_law_676 ⟨(by omega : cells ≤ 1086), (by omega : slots ≤ 10650)⟩ (fun r676 s676 H locs h hh => ?_)
        refine lv_icmp_eq (tgt := 1629) hx hb dL_law_679 (by decide) (fun c9 => ?_) (fun c9 => ?_)
        · have h := h.1 c9
          refine lv_iinc (v := (l4 + 6)) (lv' := [(4, .int (l4 + 6)), (0, .ref b), (1, .ref (G.2.1 0)), (2, .ref (G.2.1 28)), (3, .ref (G.2.1 47))]) hx hb dL_law_1629 hl (k := 4) rfl rfl (by decide) rfl (fun ls hl => ?_)
          refine lv_goto (tgt := 23) hx hb dL_law_1632 (by decide) ?_
          exact ih _ _ _ _ _ _ _ h (by omega) (by omega) hh (lv_sub hl [1, 2, 3, 4, 0] rfl)
        · have h := h.2 c9
          exact h.elim
      have h := h.2 c9_7
      by_cases c9_8 : ((xs l4.toNatClampNeg) &&& (31 : Int32)) = (8 : Int32)
      · have h := h.1 c9_8
        refine lv_tableIn (tgt := 684) hx hb dL_law_40 (by rw [c9_8]; decide) (by rw [c9_8]; decide) (by rw [c9_8] <;> rfl) (by decide) ?_
        refine lv_aload_n hx hb dL_law_684 rfl (lv_at hl 1 rfl) ?_
        refine lv_aload_n hx hb dL_law_685 rfl (lv_at hl 0 rfl) ?_
        refine lv_iload hx hb dL_law_686 (lv_at hl 4 rfl) ?_
        refine lv_iconst (v := (1 : Int32)) hx hb dL_law_688 (by decide) ?_
        refine lv_iadd hx hb dL_law_689 ?_
        obtain ⟨h0, h⟩ := h
        refine va_sld hx hb hX hbl hbA hh.2 h0 dL_law_690 ?_
        refine lv_aload_n hx hb dL_law_691 rfl (lv_at hl 3 rfl) ?_
        refine q_SL (As := [.ref (G.2.1 0), .int (xs (l4 + (1 : Int32)).toNatClampNeg), .ref (G.2.1 47)]) (rest := []) E hh (c_L_move l G _ _ _ _ hst h) (vx_cwSW 3 hts gL_law_L_move rfl rfl rfl (by decide +kernel) ⟨Nat.le_of_ble_eq_true rfl, Nat.le_of_ble_eq_true rfl⟩) rfl hl.1 rfl (Nat.le_of_ble_eq_true rfl) dL_law_692 ⟨(by omega : cells + 1 ≤ 1086), (by omega : slots + 6 ≤ 10650)⟩ (fun r692 s692 H locs h hh => ?_)
        refine lv_istore (lv' := [(5, .int r692), (0, .ref b), (1, .ref (G.2.1 0)), (2, .ref (G.2.1 28)), (3, .ref (G.2.1 47)), (4, .int l4)]) hx hb dL_law_695 hl (by decide) rfl (fun ls hl => ?_)
        refine lv_aload_n hx hb dL_law_697 rfl (lv_at hl 3 rfl) ?_
        refine lv_aload_n hx hb dL_law_698 rfl (lv_at hl 1 rfl) ?_
        refine lv_iload hx hb dL_law_699 (lv_at hl 5 rfl) ?_
        refine lv_iconst (v := (1 : Int32)) hx hb dL_law_701 (by decide) ?_
        refine lv_iadd hx hb dL_law_702 ?_
        obtain ⟨h0, h⟩ := h
        refine va_sld hx hb hX hbl hbA hh.2 h0 dL_law_703 ?_
        refine q_Vi (As := [.int (xs (l4 + (1 : Int32)).toNatClampNeg)]) (rest := []) E hh (c_X9_move l G _ _ _ _ h) (cwV 1 hts gL_law_X9_move rfl rfl rfl (by decide +kernel) ⟨Nat.le_of_ble_eq_true rfl, Nat.le_of_ble_eq_true rfl⟩) (va_recv (ci := 9) E.2.1 hh.1 rfl (WW_at_28 G s692)) rfl hl.1 rfl (Nat.le_of_ble_eq_true rfl) dL_law_704 ⟨(by omega : cells + 1 ≤ 1086), (by omega : slots + 6 ≤ 10650)⟩ (fun r704 s704 H locs h hh => ?_)
        refine lv_istore (lv' := [(6, .int r704), (5, .int r692), (0, .ref b), (1, .ref (G.2.1 0)), (2, .ref (G.2.1 28)), (3, .ref (G.2.1 47)), (4, .int l4)]) hx hb dL_law_707 hl (by decide) rfl (fun ls hl => ?_)
        refine lv_aload_n hx hb dL_law_709 rfl (lv_at hl 4 rfl) ?_
        refine q_Vi (As := []) (rest := []) E hh (c_X9_thrown l G _ _  _ h) (cwV 0 hts gL_law_X9_thrown rfl rfl rfl (by decide +kernel) ⟨Nat.le_of_ble_eq_true rfl, Nat.le_of_ble_eq_true rfl⟩) (va_recv (ci := 9) E.2.1 hh.1 rfl (WW_at_28 G s704)) rfl hl.1 rfl (Nat.le_of_ble_eq_true rfl) dL_law_710 ⟨(by omega : cells + 1 ≤ 1086), (by omega : slots + 6 ≤ 10650)⟩ (fun r710 s710 H locs h hh => ?_)
        refine lv_iload hx hb dL_law_713 (lv_at hl 1 rfl) ?_
        refine lv_icmp_eq (tgt := 720) hx hb dL_law_715 (by decide) (fun c9 => ?_) (fun c9 => ?_)
        · have h := h.1 c9
          refine lv_iload hx hb dL_law_720 (lv_at hl 1 rfl) ?_
          refine lv_if_ne (tgt := 737) hx hb dL_law_722 (by decide) (fun c9 => ?_) (fun c9 => ?_)
          · have h := h.1 c9
            refine lv_goto (tgt := 1629) hx hb dL_law_737 (by decide) ?_
            refine lv_iinc (v := (l4 + 6)) (lv' := [(4, .int (l4 + 6)), (6, .int r704), (5, .int r692), (0, .ref b), (1, .ref (G.2.1 0)), (2, .ref (G.2.1 28)), (3, .ref (G.2.1 47))]) hx hb dL_law_1629 hl (k := 6) rfl rfl (by decide) rfl (fun ls hl => ?_)
            refine lv_goto (tgt := 23) hx hb dL_law_1632 (by decide) ?_
            exact ih _ _ _ _ _ _ _ h (by omega) (by omega) hh (lv_sub hl [3, 4, 5, 6, 0] rfl)
          · have h := h.2 c9
            refine lv_aload_n hx hb dL_law_725 rfl (lv_at hl 5 rfl) ?_
            refine lv_iconst (v := (0 : Int32)) hx hb dL_law_726 (by decide) ?_
            refine q_lald E hh 47 (WW_at_47 G s710) (vp_in_nI (n := 0) (by decide) (by decide)) dL_law_727 ?_
            refine lv_iload hx hb dL_law_728 (lv_at hl 0 rfl) ?_
            refine lv_i2l (v := r704.toInt64) hx hb dL_law_730 rfl ?_
            refine W.lcmp hx hb dL_law_731 ?_
            refine lv_if_eq (tgt := 737) hx hb dL_law_732 (by decide) (fun c9 => ?_) (fun c9 => ?_)
            · have h := h.1 c9
              refine lv_goto (tgt := 1629) hx hb dL_law_737 (by decide) ?_
              refine lv_iinc (v := (l4 + 6)) (lv' := [(4, .int (l4 + 6)), (6, .int r704), (5, .int r692), (0, .ref b), (1, .ref (G.2.1 0)), (2, .ref (G.2.1 28)), (3, .ref (G.2.1 47))]) hx hb dL_law_1629 hl (k := 6) rfl rfl (by decide) rfl (fun ls hl => ?_)
              refine lv_goto (tgt := 23) hx hb dL_law_1632 (by decide) ?_
              exact ih _ _ _ _ _ _ _ h (by omega) (by omega) hh (lv_sub hl [3, 4, 5, 6, 0] rfl)
            · have h := h.2 c9
              exact h.elim
        · have h := h.2 c9
          exact h.elim
      have h := h.2 c9_8
      by_cases c9_9 : ((xs l4.toNatClampNeg) &&& (31 : Int32)) = (9 : Int32)
      · have h := h.1 c9_9
        refine lv_tableIn (tgt := 740) hx hb dL_law_40 (by rw [c9_9]; decide) (by rw [c9_9]; decide) (by rw [c9_9] <;> rfl) (by decide) ?_
        refine lv_aload_n hx hb dL_law_740 rfl (lv_at hl 1 rfl) ?_
        refine lv_aload_n hx hb dL_law_741 rfl (lv_at hl 0 rfl) ?_
        refine lv_iload hx hb dL_law_742 (lv_at hl 4 rfl) ?_
        refine lv_iconst (v := (1 : Int32)) hx hb dL_law_744 (by decide) ?_
        refine lv_iadd hx hb dL_law_745 ?_
        obtain ⟨h0, h⟩ := h
        refine va_sld hx hb hX hbl hbA hh.2 h0 dL_law_746 ?_
        refine lv_aload_n hx hb dL_law_747 rfl (lv_at hl 3 rfl) ?_
        refine q_SL (As := [.ref (G.2.1 0), .int (xs (l4 + (1 : Int32)).toNatClampNeg), .ref (G.2.1 47)]) (rest := []) E hh (c_L_mark l G _ _ _ _ hst h) (vx_cwSW 3 hts gL_law_L_mark rfl rfl rfl (by decide +kernel) ⟨Nat.le_of_ble_eq_true rfl, Nat.le_of_ble_eq_true rfl⟩) rfl hl.1 rfl (Nat.le_of_ble_eq_true rfl) dL_law_748 ⟨(by omega : cells + 1 ≤ 1086), (by omega : slots + 6 ≤ 10650)⟩ (fun r748 s748 H locs h hh => ?_)
        refine lv_istore (lv' := [(5, .int r748), (0, .ref b), (1, .ref (G.2.1 0)), (2, .ref (G.2.1 28)), (3, .ref (G.2.1 47)), (4, .int l4)]) hx hb dL_law_751 hl (by decide) rfl (fun ls hl => ?_)
        refine lv_aload_n hx hb dL_law_753 rfl (lv_at hl 3 rfl) ?_
        refine lv_aload_n hx hb dL_law_754 rfl (lv_at hl 1 rfl) ?_
        refine lv_iload hx hb dL_law_755 (lv_at hl 5 rfl) ?_
        refine lv_iconst (v := (1 : Int32)) hx hb dL_law_757 (by decide) ?_
        refine lv_iadd hx hb dL_law_758 ?_
        obtain ⟨h0, h⟩ := h
        refine va_sld hx hb hX hbl hbA hh.2 h0 dL_law_759 ?_
        refine q_Vi (As := [.int (xs (l4 + (1 : Int32)).toNatClampNeg)]) (rest := []) E hh (c_X9_mark l G _ _ _ _ h) (cwV 1 hts gL_law_X9_mark rfl rfl rfl (by decide +kernel) ⟨Nat.le_of_ble_eq_true rfl, Nat.le_of_ble_eq_true rfl⟩) (va_recv (ci := 9) E.2.1 hh.1 rfl (WW_at_28 G s748)) rfl hl.1 rfl (Nat.le_of_ble_eq_true rfl) dL_law_760 ⟨(by omega : cells + 1 ≤ 1086), (by omega : slots + 6 ≤ 10650)⟩ (fun r760 s760 H locs h hh => ?_)
        refine lv_istore (lv' := [(6, .int r760), (5, .int r748), (0, .ref b), (1, .ref (G.2.1 0)), (2, .ref (G.2.1 28)), (3, .ref (G.2.1 47)), (4, .int l4)]) hx hb dL_law_763 hl (by decide) rfl (fun ls hl => ?_)
        refine lv_aload_n hx hb dL_law_765 rfl (lv_at hl 4 rfl) ?_
        refine q_Vi (As := []) (rest := []) E hh (c_X9_thrown l G _ _  _ h) (cwV 0 hts gL_law_X9_thrown rfl rfl rfl (by decide +kernel) ⟨Nat.le_of_ble_eq_true rfl, Nat.le_of_ble_eq_true rfl⟩) (va_recv (ci := 9) E.2.1 hh.1 rfl (WW_at_28 G s760)) rfl hl.1 rfl (Nat.le_of_ble_eq_true rfl) dL_law_766 ⟨(by omega : cells + 1 ≤ 1086), (by omega : slots + 6 ≤ 10650)⟩ (fun r766 s766 H locs h hh => ?_)
        refine lv_iload hx hb dL_law_769 (lv_at hl 1 rfl) ?_
        refine lv_icmp_eq (tgt := 776) hx hb dL_law_771 (by decide) (fun c9 => ?_) (fun c9 => ?_)
        · have h := h.1 c9
          refine lv_iload hx hb dL_law_776 (lv_at hl 1 rfl) ?_
          refine lv_if_ne (tgt := 793) hx hb dL_law_778 (by decide) (fun c9 => ?_) (fun c9 => ?_)
          · have h := h.1 c9
            refine lv_goto (tgt := 1629) hx hb dL_law_793 (by decide) ?_
            refine lv_iinc (v := (l4 + 6)) (lv' := [(4, .int (l4 + 6)), (6, .int r760), (5, .int r748), (0, .ref b), (1, .ref (G.2.1 0)), (2, .ref (G.2.1 28)), (3, .ref (G.2.1 47))]) hx hb dL_law_1629 hl (k := 6) rfl rfl (by decide) rfl (fun ls hl => ?_)
            refine lv_goto (tgt := 23) hx hb dL_law_1632 (by decide) ?_
            exact ih _ _ _ _ _ _ _ h (by omega) (by omega) hh (lv_sub hl [3, 4, 5, 6, 0] rfl)
          · have h := h.2 c9
            refine lv_aload_n hx hb dL_law_781 rfl (lv_at hl 5 rfl) ?_
            refine lv_iconst (v := (0 : Int32)) hx hb dL_law_782 (by decide) ?_
            refine q_lald E hh 47 (WW_at_47 G s766) (vp_in_nI (n := 0) (by decide) (by decide)) dL_law_783 ?_
            refine lv_iload hx hb dL_law_784 (lv_at hl 0 rfl) ?_
            refine lv_i2l (v := r760.toInt64) hx hb dL_law_786 rfl ?_
            refine W.lcmp hx hb dL_law_787 ?_
            refine lv_if_eq (tgt := 793) hx hb dL_law_788 (by decide) (fun c9 => ?_) (fun c9 => ?_)
            · have h := h.1 c9
              refine lv_goto (tgt := 1629) hx hb dL_law_793 (by decide) ?_
              refine lv_iinc (v := (l4 + 6)) (lv' := [(4, .int (l4 + 6)), (6, .int r760), (5, .int r748), (0, .ref b), (1, .ref (G.2.1 0)), (2, .ref (G.2.1 28)), (3, .ref (G.2.1 47))]) hx hb dL_law_1629 hl (k := 6) rfl rfl (by decide) rfl (fun ls hl => ?_)
              refine lv_goto (tgt := 23) hx hb dL_law_1632 (by decide) ?_
              exact ih _ _ _ _ _ _ _ h (by omega) (by omega) hh (lv_sub hl [3, 4, 5, 6, 0] rfl)
            · have h := h.2 c9
              exact h.elim
        · have h := h.2 c9
          exact h.elim
      have h := h.2 c9_9
      by_cases c9_10 : ((xs l4.toNatClampNeg) &&& (31 : Int32)) = (10 : Int32)
      · have h := h.1 c9_10
        refine lv_tableIn (tgt := 796) hx hb dL_law_40 (by rw [c9_10]; decide) (by rw [c9_10]; decide) (by rw [c9_10] <;> rfl) (by decide) ?_
        refine lv_aload_n hx hb dL_law_796 rfl (lv_at hl 1 rfl) ?_
        refine q_Vi (As := []) (rest := []) E hh (c_X8_holds l G _ _  _ h) (cwV 0 hts gL_law_X8_holds rfl rfl rfl (by decide +kernel) ⟨Nat.le_of_ble_eq_true rfl, Nat.le_of_ble_eq_true rfl⟩) (va_recv (ci := 8) E.2.1 hh.1 rfl (WW_at_0 G σ)) rfl hl.1 rfl (Nat.le_of_ble_eq_true rfl) dL_law_797 ⟨(by omega : cells ≤ 1086), (by omega : slots ≤ 10650)⟩ (fun r797 s797 H locs h hh => ?_)
        refine lv_aload_n hx hb dL_law_800 rfl (lv_at hl 2 rfl) ?_
        refine q_Vi (As := []) (rest := [.int r797]) E hh (c_X9_holds l G _ _  _ h) (cwV 0 hts gL_law_X9_holds rfl rfl rfl (by decide +kernel) ⟨Nat.le_of_ble_eq_true rfl, Nat.le_of_ble_eq_true rfl⟩) (va_recv (ci := 9) E.2.1 hh.1 rfl (WW_at_28 G s797)) rfl hl.1 rfl (Nat.le_of_ble_eq_true rfl) dL_law_801 ⟨(by omega : cells ≤ 1086), (by omega : slots ≤ 10650)⟩ (fun r801 s801 H locs h hh => ?_)
        refine lv_icmp_eq (tgt := 1629) hx hb dL_law_804 (by decide) (fun c9 => ?_) (fun c9 => ?_)
        · have h := h.1 c9
          refine lv_iinc (v := (l4 + 6)) (lv' := [(4, .int (l4 + 6)), (0, .ref b), (1, .ref (G.2.1 0)), (2, .ref (G.2.1 28)), (3, .ref (G.2.1 47))]) hx hb dL_law_1629 hl (k := 4) rfl rfl (by decide) rfl (fun ls hl => ?_)
          refine lv_goto (tgt := 23) hx hb dL_law_1632 (by decide) ?_
          exact ih _ _ _ _ _ _ _ h (by omega) (by omega) hh (lv_sub hl [1, 2, 3, 4, 0] rfl)
        · have h := h.2 c9
          exact h.elim
      have h := h.2 c9_10
      by_cases c9_11 : ((xs l4.toNatClampNeg) &&& (31 : Int32)) = (11 : Int32)
      · have h := h.1 c9_11
        refine lv_tableIn (tgt := 809) hx hb dL_law_40 (by rw [c9_11]; decide) (by rw [c9_11]; decide) (by rw [c9_11] <;> rfl) (by decide) ?_
        refine lv_aload_n hx hb dL_law_809 rfl (lv_at hl 1 rfl) ?_
        refine lv_aload_n hx hb dL_law_810 rfl (lv_at hl 0 rfl) ?_
        refine lv_iload hx hb dL_law_811 (lv_at hl 4 rfl) ?_
        refine lv_iconst (v := (1 : Int32)) hx hb dL_law_813 (by decide) ?_
        refine lv_iadd hx hb dL_law_814 ?_
        obtain ⟨h0, h⟩ := h
        refine va_sld hx hb hX hbl hbA hh.2 h0 dL_law_815 ?_
        refine lv_aload_n hx hb dL_law_816 rfl (lv_at hl 0 rfl) ?_
        refine lv_iload hx hb dL_law_817 (lv_at hl 4 rfl) ?_
        refine lv_iconst (v := (2 : Int32)) hx hb dL_law_819 (by decide) ?_
        refine lv_iadd hx hb dL_law_820 ?_
        obtain ⟨h0, h⟩ := h
        refine va_sld hx hb hX hbl hbA hh.2 h0 dL_law_821 ?_
        refine lv_aload_n hx hb dL_law_822 rfl (lv_at hl 0 rfl) ?_
        refine lv_iload hx hb dL_law_823 (lv_at hl 4 rfl) ?_
        refine lv_iconst (v := (3 : Int32)) hx hb dL_law_825 (by decide) ?_
        refine lv_iadd hx hb dL_law_826 ?_
        obtain ⟨h0, h⟩ := h
        refine va_sld hx hb hX hbl hbA hh.2 h0 dL_law_827 ?_
        refine lv_aload_n hx hb dL_law_828 rfl (lv_at hl 0 rfl) ?_
        refine lv_iload hx hb dL_law_829 (lv_at hl 4 rfl) ?_
        refine lv_iconst (v := (4 : Int32)) hx hb dL_law_831 (by decide) ?_
        refine lv_iadd hx hb dL_law_832 ?_
        obtain ⟨h0, h⟩ := h
        refine va_sld hx hb hX hbl hbA hh.2 h0 dL_law_833 ?_
        refine lv_aload_n hx hb dL_law_834 rfl (lv_at hl 0 rfl) ?_
        refine lv_iload hx hb dL_law_835 (lv_at hl 4 rfl) ?_
        refine lv_iconst (v := (5 : Int32)) hx hb dL_law_837 (by decide) ?_
        refine lv_iadd hx hb dL_law_838 ?_
        obtain ⟨h0, h⟩ := h
        refine va_sld hx hb hX hbl hbA hh.2 h0 dL_law_839 ?_
        refine q_Vi (As := [.int (xs (l4 + (1 : Int32)).toNatClampNeg), .int (xs (l4 + (2 : Int32)).toNatClampNeg), .int (xs (l4 + (3 : Int32)).toNatClampNeg), .int (xs (l4 + (4 : Int32)).toNatClampNeg), .int (xs (l4 + (5 : Int32)).toNatClampNeg)]) (rest := []) E hh (c_X8_feed l G _ _ _ _ _ _ _ _ h) (cwV 5 hts gL_law_X8_feed rfl rfl rfl (by decide +kernel) ⟨Nat.le_of_ble_eq_true rfl, Nat.le_of_ble_eq_true rfl⟩) (va_recv (ci := 8) E.2.1 hh.1 rfl (WW_at_0 G σ)) rfl hl.1 rfl (Nat.le_of_ble_eq_true rfl) dL_law_840 ⟨(by omega : cells ≤ 1086), (by omega : slots ≤ 10650)⟩ (fun r840 s840 H locs h hh => ?_)
        refine lv_aload_n hx hb dL_law_843 rfl (lv_at hl 2 rfl) ?_
        refine lv_aload_n hx hb dL_law_844 rfl (lv_at hl 0 rfl) ?_
        refine lv_iload hx hb dL_law_845 (lv_at hl 4 rfl) ?_
        refine lv_iconst (v := (1 : Int32)) hx hb dL_law_847 (by decide) ?_
        refine lv_iadd hx hb dL_law_848 ?_
        obtain ⟨h0, h⟩ := h
        refine va_sld hx hb hX hbl hbA hh.2 h0 dL_law_849 ?_
        refine lv_aload_n hx hb dL_law_850 rfl (lv_at hl 0 rfl) ?_
        refine lv_iload hx hb dL_law_851 (lv_at hl 4 rfl) ?_
        refine lv_iconst (v := (2 : Int32)) hx hb dL_law_853 (by decide) ?_
        refine lv_iadd hx hb dL_law_854 ?_
        obtain ⟨h0, h⟩ := h
        refine va_sld hx hb hX hbl hbA hh.2 h0 dL_law_855 ?_
        refine lv_aload_n hx hb dL_law_856 rfl (lv_at hl 0 rfl) ?_
        refine lv_iload hx hb dL_law_857 (lv_at hl 4 rfl) ?_
        refine lv_iconst (v := (3 : Int32)) hx hb dL_law_859 (by decide) ?_
        refine lv_iadd hx hb dL_law_860 ?_
        obtain ⟨h0, h⟩ := h
        refine va_sld hx hb hX hbl hbA hh.2 h0 dL_law_861 ?_
        refine lv_aload_n hx hb dL_law_862 rfl (lv_at hl 0 rfl) ?_
        refine lv_iload hx hb dL_law_863 (lv_at hl 4 rfl) ?_
        refine lv_iconst (v := (4 : Int32)) hx hb dL_law_865 (by decide) ?_
        refine lv_iadd hx hb dL_law_866 ?_
        obtain ⟨h0, h⟩ := h
        refine va_sld hx hb hX hbl hbA hh.2 h0 dL_law_867 ?_
        refine lv_aload_n hx hb dL_law_868 rfl (lv_at hl 0 rfl) ?_
        refine lv_iload hx hb dL_law_869 (lv_at hl 4 rfl) ?_
        refine lv_iconst (v := (5 : Int32)) hx hb dL_law_871 (by decide) ?_
        refine lv_iadd hx hb dL_law_872 ?_
        obtain ⟨h0, h⟩ := h
        refine va_sld hx hb hX hbl hbA hh.2 h0 dL_law_873 ?_
        refine q_Vi (As := [.int (xs (l4 + (1 : Int32)).toNatClampNeg), .int (xs (l4 + (2 : Int32)).toNatClampNeg), .int (xs (l4 + (3 : Int32)).toNatClampNeg), .int (xs (l4 + (4 : Int32)).toNatClampNeg), .int (xs (l4 + (5 : Int32)).toNatClampNeg)]) (rest := [.int r840]) E hh (c_X9_feed l G _ _ _ _ _ _ _ _ h) (cwV 5 hts gL_law_X9_feed rfl rfl rfl (by decide +kernel) ⟨Nat.le_of_ble_eq_true rfl, Nat.le_of_ble_eq_true rfl⟩) (va_recv (ci := 9) E.2.1 hh.1 rfl (WW_at_28 G s840)) rfl hl.1 rfl (Nat.le_of_ble_eq_true rfl) dL_law_874 ⟨(by omega : cells ≤ 1086), (by omega : slots ≤ 10650)⟩ (fun r874 s874 H locs h hh => ?_)
        refine lv_icmp_eq (tgt := 1629) hx hb dL_law_877 (by decide) (fun c9 => ?_) (fun c9 => ?_)
        · have h := h.1 c9
          refine lv_iinc (v := (l4 + 6)) (lv' := [(4, .int (l4 + 6)), (0, .ref b), (1, .ref (G.2.1 0)), (2, .ref (G.2.1 28)), (3, .ref (G.2.1 47))]) hx hb dL_law_1629 hl (k := 4) rfl rfl (by decide) rfl (fun ls hl => ?_)
          refine lv_goto (tgt := 23) hx hb dL_law_1632 (by decide) ?_
          exact ih _ _ _ _ _ _ _ h (by omega) (by omega) hh (lv_sub hl [1, 2, 3, 4, 0] rfl)
        · have h := h.2 c9
          exact h.elim
      have h := h.2 c9_11
      by_cases c9_12 : ((xs l4.toNatClampNeg) &&& (31 : Int32)) = (12 : Int32)
      · have h := h.1 c9_12
        refine lv_tableIn (tgt := 882) hx hb dL_law_40 (by rw [c9_12]; decide) (by rw [c9_12]; decide) (by rw [c9_12] <;> rfl) (by decide) ?_
        refine lv_aload_n hx hb dL_law_882 rfl (lv_at hl 1 rfl) ?_
        refine lv_aload_n hx hb dL_law_883 rfl (lv_at hl 0 rfl) ?_
        refine lv_iload hx hb dL_law_884 (lv_at hl 4 rfl) ?_
        refine lv_iconst (v := (1 : Int32)) hx hb dL_law_886 (by decide) ?_
        refine lv_iadd hx hb dL_law_887 ?_
        obtain ⟨h0, h⟩ := h
        refine va_sld hx hb hX hbl hbA hh.2 h0 dL_law_888 ?_
        refine lv_aload_n hx hb dL_law_889 rfl (lv_at hl 3 rfl) ?_
        refine q_SL (As := [.ref (G.2.1 0), .int (xs (l4 + (1 : Int32)).toNatClampNeg), .ref (G.2.1 47)]) (rest := []) E hh (c_L_rule l G _ _ _ _ hst h) (vx_cwSW 3 hts gL_law_L_rule rfl rfl rfl (by decide +kernel) ⟨Nat.le_of_ble_eq_true rfl, Nat.le_of_ble_eq_true rfl⟩) rfl hl.1 rfl (Nat.le_of_ble_eq_true rfl) dL_law_890 ⟨(by omega : cells + 1 ≤ 1086), (by omega : slots + 6 ≤ 10650)⟩ (fun r890 s890 H locs h hh => ?_)
        refine lv_istore (lv' := [(5, .int r890), (0, .ref b), (1, .ref (G.2.1 0)), (2, .ref (G.2.1 28)), (3, .ref (G.2.1 47)), (4, .int l4)]) hx hb dL_law_893 hl (by decide) rfl (fun ls hl => ?_)
        refine lv_aload_n hx hb dL_law_895 rfl (lv_at hl 3 rfl) ?_
        refine lv_aload_n hx hb dL_law_896 rfl (lv_at hl 1 rfl) ?_
        refine lv_iload hx hb dL_law_897 (lv_at hl 5 rfl) ?_
        refine lv_iconst (v := (1 : Int32)) hx hb dL_law_899 (by decide) ?_
        refine lv_iadd hx hb dL_law_900 ?_
        obtain ⟨h0, h⟩ := h
        refine va_sld hx hb hX hbl hbA hh.2 h0 dL_law_901 ?_
        refine q_Vi (As := [.int (xs (l4 + (1 : Int32)).toNatClampNeg)]) (rest := []) E hh (c_X9_rule l G _ _ _ _ h) (cwV 1 hts gL_law_X9_rule rfl rfl rfl (by decide +kernel) ⟨Nat.le_of_ble_eq_true rfl, Nat.le_of_ble_eq_true rfl⟩) (va_recv (ci := 9) E.2.1 hh.1 rfl (WW_at_28 G s890)) rfl hl.1 rfl (Nat.le_of_ble_eq_true rfl) dL_law_902 ⟨(by omega : cells + 1 ≤ 1086), (by omega : slots + 6 ≤ 10650)⟩ (fun r902 s902 H locs h hh => ?_)
        refine lv_istore (lv' := [(6, .int r902), (5, .int r890), (0, .ref b), (1, .ref (G.2.1 0)), (2, .ref (G.2.1 28)), (3, .ref (G.2.1 47)), (4, .int l4)]) hx hb dL_law_905 hl (by decide) rfl (fun ls hl => ?_)
        refine lv_aload_n hx hb dL_law_907 rfl (lv_at hl 4 rfl) ?_
        refine q_Vi (As := []) (rest := []) E hh (c_X9_thrown l G _ _  _ h) (cwV 0 hts gL_law_X9_thrown rfl rfl rfl (by decide +kernel) ⟨Nat.le_of_ble_eq_true rfl, Nat.le_of_ble_eq_true rfl⟩) (va_recv (ci := 9) E.2.1 hh.1 rfl (WW_at_28 G s902)) rfl hl.1 rfl (Nat.le_of_ble_eq_true rfl) dL_law_908 ⟨(by omega : cells + 1 ≤ 1086), (by omega : slots + 6 ≤ 10650)⟩ (fun r908 s908 H locs h hh => ?_)
        refine lv_iload hx hb dL_law_911 (lv_at hl 1 rfl) ?_
        refine lv_icmp_eq (tgt := 918) hx hb dL_law_913 (by decide) (fun c9 => ?_) (fun c9 => ?_)
        · have h := h.1 c9
          refine lv_iload hx hb dL_law_918 (lv_at hl 1 rfl) ?_
          refine lv_if_ne (tgt := 935) hx hb dL_law_920 (by decide) (fun c9 => ?_) (fun c9 => ?_)
          · have h := h.1 c9
            refine lv_goto (tgt := 1629) hx hb dL_law_935 (by decide) ?_
            refine lv_iinc (v := (l4 + 6)) (lv' := [(4, .int (l4 + 6)), (6, .int r902), (5, .int r890), (0, .ref b), (1, .ref (G.2.1 0)), (2, .ref (G.2.1 28)), (3, .ref (G.2.1 47))]) hx hb dL_law_1629 hl (k := 6) rfl rfl (by decide) rfl (fun ls hl => ?_)
            refine lv_goto (tgt := 23) hx hb dL_law_1632 (by decide) ?_
            exact ih _ _ _ _ _ _ _ h (by omega) (by omega) hh (lv_sub hl [3, 4, 5, 6, 0] rfl)
          · have h := h.2 c9
            refine lv_aload_n hx hb dL_law_923 rfl (lv_at hl 5 rfl) ?_
            refine lv_iconst (v := (0 : Int32)) hx hb dL_law_924 (by decide) ?_
            refine q_lald E hh 47 (WW_at_47 G s908) (vp_in_nI (n := 0) (by decide) (by decide)) dL_law_925 ?_
            refine lv_iload hx hb dL_law_926 (lv_at hl 0 rfl) ?_
            refine lv_i2l (v := r902.toInt64) hx hb dL_law_928 rfl ?_
            refine W.lcmp hx hb dL_law_929 ?_
            refine lv_if_eq (tgt := 935) hx hb dL_law_930 (by decide) (fun c9 => ?_) (fun c9 => ?_)
            · have h := h.1 c9
              refine lv_goto (tgt := 1629) hx hb dL_law_935 (by decide) ?_
              refine lv_iinc (v := (l4 + 6)) (lv' := [(4, .int (l4 + 6)), (6, .int r902), (5, .int r890), (0, .ref b), (1, .ref (G.2.1 0)), (2, .ref (G.2.1 28)), (3, .ref (G.2.1 47))]) hx hb dL_law_1629 hl (k := 6) rfl rfl (by decide) rfl (fun ls hl => ?_)
              refine lv_goto (tgt := 23) hx hb dL_law_1632 (by decide) ?_
              exact ih _ _ _ _ _ _ _ h (by omega) (by omega) hh (lv_sub hl [3, 4, 5, 6, 0] rfl)
            · have h := h.2 c9
              exact h.elim
        · have h := h.2 c9
          exact h.elim
      have h := h.2 c9_12
      by_cases c9_13 : ((xs l4.toNatClampNeg) &&& (31 : Int32)) = (13 : Int32)
      · have h := h.1 c9_13
        refine lv_tableIn (tgt := 938) hx hb dL_law_40 (by rw [c9_13]; decide) (by rw [c9_13]; decide) (by rw [c9_13] <;> rfl) (by decide) ?_
        refine lv_aload_n hx hb dL_law_938 rfl (lv_at hl 1 rfl) ?_
        refine q_Vi (As := []) (rest := []) E hh (c_X8_fault l G _ _  _ h) (cwV 0 hts gL_law_X8_fault rfl rfl rfl (by decide +kernel) ⟨Nat.le_of_ble_eq_true rfl, Nat.le_of_ble_eq_true rfl⟩) (va_recv (ci := 8) E.2.1 hh.1 rfl (WW_at_0 G σ)) rfl hl.1 rfl (Nat.le_of_ble_eq_true rfl) dL_law_939 ⟨(by omega : cells ≤ 1086), (by omega : slots ≤ 10650)⟩ (fun r939 s939 H locs h hh => ?_)
        refine lv_aload_n hx hb dL_law_942 rfl (lv_at hl 2 rfl) ?_
        refine q_Vi (As := []) (rest := [.int r939]) E hh (c_X9_fault l G _ _  _ h) (cwV 0 hts gL_law_X9_fault rfl rfl rfl (by decide +kernel) ⟨Nat.le_of_ble_eq_true rfl, Nat.le_of_ble_eq_true rfl⟩) (va_recv (ci := 9) E.2.1 hh.1 rfl (WW_at_28 G s939)) rfl hl.1 rfl (Nat.le_of_ble_eq_true rfl) dL_law_943 ⟨(by omega : cells ≤ 1086), (by omega : slots ≤ 10650)⟩ (fun r943 s943 H locs h hh => ?_)
        refine lv_icmp_eq (tgt := 1629) hx hb dL_law_946 (by decide) (fun c9 => ?_) (fun c9 => ?_)
        · have h := h.1 c9
          refine lv_iinc (v := (l4 + 6)) (lv' := [(4, .int (l4 + 6)), (0, .ref b), (1, .ref (G.2.1 0)), (2, .ref (G.2.1 28)), (3, .ref (G.2.1 47))]) hx hb dL_law_1629 hl (k := 4) rfl rfl (by decide) rfl (fun ls hl => ?_)
          refine lv_goto (tgt := 23) hx hb dL_law_1632 (by decide) ?_
          exact ih _ _ _ _ _ _ _ h (by omega) (by omega) hh (lv_sub hl [1, 2, 3, 4, 0] rfl)
        · have h := h.2 c9
          exact h.elim
      have h := h.2 c9_13
      by_cases c9_14 : ((xs l4.toNatClampNeg) &&& (31 : Int32)) = (14 : Int32)
      · have h := h.1 c9_14
        refine lv_tableIn (tgt := 951) hx hb dL_law_40 (by rw [c9_14]; decide) (by rw [c9_14]; decide) (by rw [c9_14] <;> rfl) (by decide) ?_
        refine lv_aload_n hx hb dL_law_951 rfl (lv_at hl 1 rfl) ?_
        refine lv_aload_n hx hb dL_law_952 rfl (lv_at hl 3 rfl) ?_
        refine q_SL (As := [.ref (G.2.1 0), .ref (G.2.1 47)]) (rest := []) E hh (c_L_boat l G _ _  _ hst h) (vx_cwSW 2 hts gL_law_L_boat rfl rfl rfl (by decide +kernel) ⟨Nat.le_of_ble_eq_true rfl, Nat.le_of_ble_eq_true rfl⟩) rfl hl.1 rfl (Nat.le_of_ble_eq_true rfl) dL_law_953 ⟨(by omega : cells + 1 ≤ 1086), (by omega : slots + 6 ≤ 10650)⟩ (fun r953 s953 H locs h hh => ?_)
        refine lv_istore (lv' := [(5, .int r953), (0, .ref b), (1, .ref (G.2.1 0)), (2, .ref (G.2.1 28)), (3, .ref (G.2.1 47)), (4, .int l4)]) hx hb dL_law_956 hl (by decide) rfl (fun ls hl => ?_)
        refine lv_aload_n hx hb dL_law_958 rfl (lv_at hl 3 rfl) ?_
        refine q_Vi (As := []) (rest := []) E hh (c_X9_boat l G _ _  _ h) (cwV 0 hts gL_law_X9_boat rfl rfl rfl (by decide +kernel) ⟨Nat.le_of_ble_eq_true rfl, Nat.le_of_ble_eq_true rfl⟩) (va_recv (ci := 9) E.2.1 hh.1 rfl (WW_at_28 G s953)) rfl hl.1 rfl (Nat.le_of_ble_eq_true rfl) dL_law_959 ⟨(by omega : cells + 1 ≤ 1086), (by omega : slots + 6 ≤ 10650)⟩ (fun r959 s959 H locs h hh => ?_)
        refine lv_istore (lv' := [(6, .int r959), (5, .int r953), (0, .ref b), (1, .ref (G.2.1 0)), (2, .ref (G.2.1 28)), (3, .ref (G.2.1 47)), (4, .int l4)]) hx hb dL_law_962 hl (by decide) rfl (fun ls hl => ?_)
        refine lv_aload_n hx hb dL_law_964 rfl (lv_at hl 4 rfl) ?_
        refine q_Vi (As := []) (rest := []) E hh (c_X9_thrown l G _ _  _ h) (cwV 0 hts gL_law_X9_thrown rfl rfl rfl (by decide +kernel) ⟨Nat.le_of_ble_eq_true rfl, Nat.le_of_ble_eq_true rfl⟩) (va_recv (ci := 9) E.2.1 hh.1 rfl (WW_at_28 G s959)) rfl hl.1 rfl (Nat.le_of_ble_eq_true rfl) dL_law_965 ⟨(by omega : cells + 1 ≤ 1086), (by omega : slots + 6 ≤ 10650)⟩ (fun r965 s965 H locs h hh => ?_)
        refine lv_iload hx hb dL_law_968 (lv_at hl 1 rfl) ?_
        refine lv_icmp_eq (tgt := 975) hx hb dL_law_970 (by decide) (fun c9 => ?_) (fun c9 => ?_)
        · have h := h.1 c9
          refine lv_iload hx hb dL_law_975 (lv_at hl 1 rfl) ?_
          refine lv_if_ne (tgt := 992) hx hb dL_law_977 (by decide) (fun c9 => ?_) (fun c9 => ?_)
          · have h := h.1 c9
            refine lv_goto (tgt := 1629) hx hb dL_law_992 (by decide) ?_
            refine lv_iinc (v := (l4 + 6)) (lv' := [(4, .int (l4 + 6)), (6, .int r959), (5, .int r953), (0, .ref b), (1, .ref (G.2.1 0)), (2, .ref (G.2.1 28)), (3, .ref (G.2.1 47))]) hx hb dL_law_1629 hl (k := 6) rfl rfl (by decide) rfl (fun ls hl => ?_)
            refine lv_goto (tgt := 23) hx hb dL_law_1632 (by decide) ?_
            exact ih _ _ _ _ _ _ _ h (by omega) (by omega) hh (lv_sub hl [3, 4, 5, 6, 0] rfl)
          · have h := h.2 c9
            refine lv_aload_n hx hb dL_law_980 rfl (lv_at hl 5 rfl) ?_
            refine lv_iconst (v := (0 : Int32)) hx hb dL_law_981 (by decide) ?_
            refine q_lald E hh 47 (WW_at_47 G s965) (vp_in_nI (n := 0) (by decide) (by decide)) dL_law_982 ?_
            refine lv_iload hx hb dL_law_983 (lv_at hl 0 rfl) ?_
            refine lv_i2l (v := r959.toInt64) hx hb dL_law_985 rfl ?_
            refine W.lcmp hx hb dL_law_986 ?_
            refine lv_if_eq (tgt := 992) hx hb dL_law_987 (by decide) (fun c9 => ?_) (fun c9 => ?_)
            · have h := h.1 c9
              refine lv_goto (tgt := 1629) hx hb dL_law_992 (by decide) ?_
              refine lv_iinc (v := (l4 + 6)) (lv' := [(4, .int (l4 + 6)), (6, .int r959), (5, .int r953), (0, .ref b), (1, .ref (G.2.1 0)), (2, .ref (G.2.1 28)), (3, .ref (G.2.1 47))]) hx hb dL_law_1629 hl (k := 6) rfl rfl (by decide) rfl (fun ls hl => ?_)
              refine lv_goto (tgt := 23) hx hb dL_law_1632 (by decide) ?_
              exact ih _ _ _ _ _ _ _ h (by omega) (by omega) hh (lv_sub hl [3, 4, 5, 6, 0] rfl)
            · have h := h.2 c9
              exact h.elim
        · have h := h.2 c9
          exact h.elim
      have h := h.2 c9_14
      by_cases c9_15 : ((xs l4.toNatClampNeg) &&& (31 : Int32)) = (15 : Int32)
      · have h := h.1 c9_15
        refine lv_tableIn (tgt := 995) hx hb dL_law_40 (by rw [c9_15]; decide) (by rw [c9_15]; decide) (by rw [c9_15] <;> rfl) (by decide) ?_
        refine lv_aload_n hx hb dL_law_995 rfl (lv_at hl 1 rfl) ?_
        refine lv_aload_n hx hb dL_law_996 rfl (lv_at hl 0 rfl) ?_
        refine lv_iload hx hb dL_law_997 (lv_at hl 4 rfl) ?_
        refine lv_iconst (v := (1 : Int32)) hx hb dL_law_999 (by decide) ?_
        refine lv_iadd hx hb dL_law_1000 ?_
        obtain ⟨h0, h⟩ := h
        refine va_sld hx hb hX hbl hbA hh.2 h0 dL_law_1001 ?_
        refine lv_aload_n hx hb dL_law_1002 rfl (lv_at hl 0 rfl) ?_
        refine lv_iload hx hb dL_law_1003 (lv_at hl 4 rfl) ?_
        refine lv_iconst (v := (2 : Int32)) hx hb dL_law_1005 (by decide) ?_
        refine lv_iadd hx hb dL_law_1006 ?_
        obtain ⟨h0, h⟩ := h
        refine va_sld hx hb hX hbl hbA hh.2 h0 dL_law_1007 ?_
        refine lv_aload_n hx hb dL_law_1008 rfl (lv_at hl 0 rfl) ?_
        refine lv_iload hx hb dL_law_1009 (lv_at hl 4 rfl) ?_
        refine lv_iconst (v := (3 : Int32)) hx hb dL_law_1011 (by decide) ?_
        refine lv_iadd hx hb dL_law_1012 ?_
        obtain ⟨h0, h⟩ := h
        refine va_sld hx hb hX hbl hbA hh.2 h0 dL_law_1013 ?_
        refine lv_aload_n hx hb dL_law_1014 rfl (lv_at hl 0 rfl) ?_
        refine lv_iload hx hb dL_law_1015 (lv_at hl 4 rfl) ?_
        refine lv_iconst (v := (4 : Int32)) hx hb dL_law_1017 (by decide) ?_
        refine lv_iadd hx hb dL_law_1018 ?_
        obtain ⟨h0, h⟩ := h
        refine va_sld hx hb hX hbl hbA hh.2 h0 dL_law_1019 ?_
        refine lv_aload_n hx hb dL_law_1020 rfl (lv_at hl 3 rfl) ?_
        refine q_SL (As := [.ref (G.2.1 0), .int (xs (l4 + (1 : Int32)).toNatClampNeg), .int (xs (l4 + (2 : Int32)).toNatClampNeg), .int (xs (l4 + (3 : Int32)).toNatClampNeg), .int (xs (l4 + (4 : Int32)).toNatClampNeg), .ref (G.2.1 47)]) (rest := []) E hh (c_L_place l G _ _ _ _ _ _ _ hst h) (vx_cwSW 6 hts gL_law_L_place rfl rfl rfl (by decide +kernel) ⟨Nat.le_of_ble_eq_true rfl, Nat.le_of_ble_eq_true rfl⟩) rfl hl.1 rfl (Nat.le_of_ble_eq_true rfl) dL_law_1021 ⟨(by omega : cells + 1 ≤ 1086), (by omega : slots + 6 ≤ 10650)⟩ (fun r1021 s1021 H locs h hh => ?_)
        refine lv_istore (lv' := [(5, .int r1021), (0, .ref b), (1, .ref (G.2.1 0)), (2, .ref (G.2.1 28)), (3, .ref (G.2.1 47)), (4, .int l4)]) hx hb dL_law_1024 hl (by decide) rfl (fun ls hl => ?_)
        refine lv_aload_n hx hb dL_law_1026 rfl (lv_at hl 3 rfl) ?_
        refine lv_aload_n hx hb dL_law_1027 rfl (lv_at hl 1 rfl) ?_
        refine lv_iload hx hb dL_law_1028 (lv_at hl 5 rfl) ?_
        refine lv_iconst (v := (1 : Int32)) hx hb dL_law_1030 (by decide) ?_
        refine lv_iadd hx hb dL_law_1031 ?_
        obtain ⟨h0, h⟩ := h
        refine va_sld hx hb hX hbl hbA hh.2 h0 dL_law_1032 ?_
        refine lv_aload_n hx hb dL_law_1033 rfl (lv_at hl 1 rfl) ?_
        refine lv_iload hx hb dL_law_1034 (lv_at hl 5 rfl) ?_
        refine lv_iconst (v := (2 : Int32)) hx hb dL_law_1036 (by decide) ?_
        refine lv_iadd hx hb dL_law_1037 ?_
        obtain ⟨h0, h⟩ := h
        refine va_sld hx hb hX hbl hbA hh.2 h0 dL_law_1038 ?_
        refine lv_aload_n hx hb dL_law_1039 rfl (lv_at hl 1 rfl) ?_
        refine lv_iload hx hb dL_law_1040 (lv_at hl 5 rfl) ?_
        refine lv_iconst (v := (3 : Int32)) hx hb dL_law_1042 (by decide) ?_
        refine lv_iadd hx hb dL_law_1043 ?_
        obtain ⟨h0, h⟩ := h
        refine va_sld hx hb hX hbl hbA hh.2 h0 dL_law_1044 ?_
        refine lv_aload_n hx hb dL_law_1045 rfl (lv_at hl 1 rfl) ?_
        refine lv_iload hx hb dL_law_1046 (lv_at hl 5 rfl) ?_
        refine lv_iconst (v := (4 : Int32)) hx hb dL_law_1048 (by decide) ?_
        refine lv_iadd hx hb dL_law_1049 ?_
        obtain ⟨h0, h⟩ := h
        refine va_sld hx hb hX hbl hbA hh.2 h0 dL_law_1050 ?_
        refine q_Vi (As := [.int (xs (l4 + (1 : Int32)).toNatClampNeg), .int (xs (l4 + (2 : Int32)).toNatClampNeg), .int (xs (l4 + (3 : Int32)).toNatClampNeg), .int (xs (l4 + (4 : Int32)).toNatClampNeg)]) (rest := []) E hh (c_X9_place l G _ _ _ _ _ _ _ h) (cwV 4 hts gL_law_X9_place rfl rfl rfl (by decide +kernel) ⟨Nat.le_of_ble_eq_true rfl, Nat.le_of_ble_eq_true rfl⟩) (va_recv (ci := 9) E.2.1 hh.1 rfl (WW_at_28 G s1021)) rfl hl.1 rfl (Nat.le_of_ble_eq_true rfl) dL_law_1051 ⟨(by omega : cells + 1 ≤ 1086), (by omega : slots + 6 ≤ 10650)⟩ (fun r1051 s1051 H locs h hh => ?_)
        refine lv_istore (lv' := [(6, .int r1051), (5, .int r1021), (0, .ref b), (1, .ref (G.2.1 0)), (2, .ref (G.2.1 28)), (3, .ref (G.2.1 47)), (4, .int l4)]) hx hb dL_law_1054 hl (by decide) rfl (fun ls hl => ?_)
        refine lv_aload_n hx hb dL_law_1056 rfl (lv_at hl 4 rfl) ?_
        refine q_Vi (As := []) (rest := []) E hh (c_X9_thrown l G _ _  _ h) (cwV 0 hts gL_law_X9_thrown rfl rfl rfl (by decide +kernel) ⟨Nat.le_of_ble_eq_true rfl, Nat.le_of_ble_eq_true rfl⟩) (va_recv (ci := 9) E.2.1 hh.1 rfl (WW_at_28 G s1051)) rfl hl.1 rfl (Nat.le_of_ble_eq_true rfl) dL_law_1057 ⟨(by omega : cells + 1 ≤ 1086), (by omega : slots + 6 ≤ 10650)⟩ (fun r1057 s1057 H locs h hh => ?_)
        refine lv_iload hx hb dL_law_1060 (lv_at hl 1 rfl) ?_
        refine lv_icmp_eq (tgt := 1067) hx hb dL_law_1062 (by decide) (fun c9 => ?_) (fun c9 => ?_)
        · have h := h.1 c9
          refine lv_iload hx hb dL_law_1067 (lv_at hl 1 rfl) ?_
          refine lv_if_ne (tgt := 1084) hx hb dL_law_1069 (by decide) (fun c9 => ?_) (fun c9 => ?_)
          · have h := h.1 c9
            refine lv_goto (tgt := 1629) hx hb dL_law_1084 (by decide) ?_
            refine lv_iinc (v := (l4 + 6)) (lv' := [(4, .int (l4 + 6)), (6, .int r1051), (5, .int r1021), (0, .ref b), (1, .ref (G.2.1 0)), (2, .ref (G.2.1 28)), (3, .ref (G.2.1 47))]) hx hb dL_law_1629 hl (k := 6) rfl rfl (by decide) rfl (fun ls hl => ?_)
            refine lv_goto (tgt := 23) hx hb dL_law_1632 (by decide) ?_
            exact ih _ _ _ _ _ _ _ h (by omega) (by omega) hh (lv_sub hl [3, 4, 5, 6, 0] rfl)
          · have h := h.2 c9
            refine lv_aload_n hx hb dL_law_1072 rfl (lv_at hl 5 rfl) ?_
            refine lv_iconst (v := (0 : Int32)) hx hb dL_law_1073 (by decide) ?_
            refine q_lald E hh 47 (WW_at_47 G s1057) (vp_in_nI (n := 0) (by decide) (by decide)) dL_law_1074 ?_
            refine lv_iload hx hb dL_law_1075 (lv_at hl 0 rfl) ?_
            refine lv_i2l (v := r1051.toInt64) hx hb dL_law_1077 rfl ?_
            refine W.lcmp hx hb dL_law_1078 ?_
            refine lv_if_eq (tgt := 1084) hx hb dL_law_1079 (by decide) (fun c9 => ?_) (fun c9 => ?_)
            · have h := h.1 c9
              refine lv_goto (tgt := 1629) hx hb dL_law_1084 (by decide) ?_
              refine lv_iinc (v := (l4 + 6)) (lv' := [(4, .int (l4 + 6)), (6, .int r1051), (5, .int r1021), (0, .ref b), (1, .ref (G.2.1 0)), (2, .ref (G.2.1 28)), (3, .ref (G.2.1 47))]) hx hb dL_law_1629 hl (k := 6) rfl rfl (by decide) rfl (fun ls hl => ?_)
              refine lv_goto (tgt := 23) hx hb dL_law_1632 (by decide) ?_
              exact ih _ _ _ _ _ _ _ h (by omega) (by omega) hh (lv_sub hl [3, 4, 5, 6, 0] rfl)
            · have h := h.2 c9
              exact h.elim
        · have h := h.2 c9
          exact h.elim
      have h := h.2 c9_15
      by_cases c9_16 : ((xs l4.toNatClampNeg) &&& (31 : Int32)) = (16 : Int32)
      · have h := h.1 c9_16
        refine lv_tableIn (tgt := 1087) hx hb dL_law_40 (by rw [c9_16]; decide) (by rw [c9_16]; decide) (by rw [c9_16] <;> rfl) (by decide) ?_
        refine lv_aload_n hx hb dL_law_1087 rfl (lv_at hl 1 rfl) ?_
        refine lv_aload_n hx hb dL_law_1088 rfl (lv_at hl 0 rfl) ?_
        refine lv_iload hx hb dL_law_1089 (lv_at hl 4 rfl) ?_
        refine lv_iconst (v := (1 : Int32)) hx hb dL_law_1091 (by decide) ?_
        refine lv_iadd hx hb dL_law_1092 ?_
        obtain ⟨h0, h⟩ := h
        refine va_sld hx hb hX hbl hbA hh.2 h0 dL_law_1093 ?_
        refine lv_aload_n hx hb dL_law_1094 rfl (lv_at hl 0 rfl) ?_
        refine lv_iload hx hb dL_law_1095 (lv_at hl 4 rfl) ?_
        refine lv_iconst (v := (2 : Int32)) hx hb dL_law_1097 (by decide) ?_
        refine lv_iadd hx hb dL_law_1098 ?_
        obtain ⟨h0, h⟩ := h
        refine va_sld hx hb hX hbl hbA hh.2 h0 dL_law_1099 ?_
        refine lv_aload_n hx hb dL_law_1100 rfl (lv_at hl 3 rfl) ?_
        refine q_SL (As := [.ref (G.2.1 0), .int (xs (l4 + (1 : Int32)).toNatClampNeg), .int (xs (l4 + (2 : Int32)).toNatClampNeg), .ref (G.2.1 47)]) (rest := []) E hh (c_L_clear l G _ _ _ _ _ hst h) (vx_cwSW 4 hts gL_law_L_clear rfl rfl rfl (by decide +kernel) ⟨Nat.le_of_ble_eq_true rfl, Nat.le_of_ble_eq_true rfl⟩) rfl hl.1 rfl (Nat.le_of_ble_eq_true rfl) dL_law_1101 ⟨(by omega : cells + 1 ≤ 1086), (by omega : slots + 6 ≤ 10650)⟩ (fun r1101 s1101 H locs h hh => ?_)
        refine lv_istore (lv' := [(5, .int r1101), (0, .ref b), (1, .ref (G.2.1 0)), (2, .ref (G.2.1 28)), (3, .ref (G.2.1 47)), (4, .int l4)]) hx hb dL_law_1104 hl (by decide) rfl (fun ls hl => ?_)
        refine lv_aload_n hx hb dL_law_1106 rfl (lv_at hl 3 rfl) ?_
        refine lv_aload_n hx hb dL_law_1107 rfl (lv_at hl 1 rfl) ?_
        refine lv_iload hx hb dL_law_1108 (lv_at hl 5 rfl) ?_
        refine lv_iconst (v := (1 : Int32)) hx hb dL_law_1110 (by decide) ?_
        refine lv_iadd hx hb dL_law_1111 ?_
        obtain ⟨h0, h⟩ := h
        refine va_sld hx hb hX hbl hbA hh.2 h0 dL_law_1112 ?_
        refine lv_aload_n hx hb dL_law_1113 rfl (lv_at hl 1 rfl) ?_
        refine lv_iload hx hb dL_law_1114 (lv_at hl 5 rfl) ?_
        refine lv_iconst (v := (2 : Int32)) hx hb dL_law_1116 (by decide) ?_
        refine lv_iadd hx hb dL_law_1117 ?_
        obtain ⟨h0, h⟩ := h
        refine va_sld hx hb hX hbl hbA hh.2 h0 dL_law_1118 ?_
        refine q_Vi (As := [.int (xs (l4 + (1 : Int32)).toNatClampNeg), .int (xs (l4 + (2 : Int32)).toNatClampNeg)]) (rest := []) E hh (c_X9_clear l G _ _ _ _ _ h) (cwV 2 hts gL_law_X9_clear rfl rfl rfl (by decide +kernel) ⟨Nat.le_of_ble_eq_true rfl, Nat.le_of_ble_eq_true rfl⟩) (va_recv (ci := 9) E.2.1 hh.1 rfl (WW_at_28 G s1101)) rfl hl.1 rfl (Nat.le_of_ble_eq_true rfl) dL_law_1119 ⟨(by omega : cells + 1 ≤ 1086), (by omega : slots + 6 ≤ 10650)⟩ (fun r1119 s1119 H locs h hh => ?_)
        refine lv_istore (lv' := [(6, .int r1119), (5, .int r1101), (0, .ref b), (1, .ref (G.2.1 0)), (2, .ref (G.2.1 28)), (3, .ref (G.2.1 47)), (4, .int l4)]) hx hb dL_law_1122 hl (by decide) rfl (fun ls hl => ?_)
        refine lv_aload_n hx hb dL_law_1124 rfl (lv_at hl 4 rfl) ?_
        refine q_Vi (As := []) (rest := []) E hh (c_X9_thrown l G _ _  _ h) (cwV 0 hts gL_law_X9_thrown rfl rfl rfl (by decide +kernel) ⟨Nat.le_of_ble_eq_true rfl, Nat.le_of_ble_eq_true rfl⟩) (va_recv (ci := 9) E.2.1 hh.1 rfl (WW_at_28 G s1119)) rfl hl.1 rfl (Nat.le_of_ble_eq_true rfl) dL_law_1125 ⟨(by omega : cells + 1 ≤ 1086), (by omega : slots + 6 ≤ 10650)⟩ (fun r1125 s1125 H locs h hh => ?_)
        refine lv_iload hx hb dL_law_1128 (lv_at hl 1 rfl) ?_
        refine lv_icmp_eq (tgt := 1135) hx hb dL_law_1130 (by decide) (fun c9 => ?_) (fun c9 => ?_)
        · have h := h.1 c9
          refine lv_iload hx hb dL_law_1135 (lv_at hl 1 rfl) ?_
          refine lv_if_ne (tgt := 1152) hx hb dL_law_1137 (by decide) (fun c9 => ?_) (fun c9 => ?_)
          · have h := h.1 c9
            refine lv_goto (tgt := 1629) hx hb dL_law_1152 (by decide) ?_
            refine lv_iinc (v := (l4 + 6)) (lv' := [(4, .int (l4 + 6)), (6, .int r1119), (5, .int r1101), (0, .ref b), (1, .ref (G.2.1 0)), (2, .ref (G.2.1 28)), (3, .ref (G.2.1 47))]) hx hb dL_law_1629 hl (k := 6) rfl rfl (by decide) rfl (fun ls hl => ?_)
            refine lv_goto (tgt := 23) hx hb dL_law_1632 (by decide) ?_
            exact ih _ _ _ _ _ _ _ h (by omega) (by omega) hh (lv_sub hl [3, 4, 5, 6, 0] rfl)
          · have h := h.2 c9
            refine lv_aload_n hx hb dL_law_1140 rfl (lv_at hl 5 rfl) ?_
            refine lv_iconst (v := (0 : Int32)) hx hb dL_law_1141 (by decide) ?_
            refine q_lald E hh 47 (WW_at_47 G s1125) (vp_in_nI (n := 0) (by decide) (by decide)) dL_law_1142 ?_
            refine lv_iload hx hb dL_law_1143 (lv_at hl 0 rfl) ?_
            refine lv_i2l (v := r1119.toInt64) hx hb dL_law_1145 rfl ?_
            refine W.lcmp hx hb dL_law_1146 ?_
            refine lv_if_eq (tgt := 1152) hx hb dL_law_1147 (by decide) (fun c9 => ?_) (fun c9 => ?_)
            · have h := h.1 c9
              refine lv_goto (tgt := 1629) hx hb dL_law_1152 (by decide) ?_
              refine lv_iinc (v := (l4 + 6)) (lv' := [(4, .int (l4 + 6)), (6, .int r1119), (5, .int r1101), (0, .ref b), (1, .ref (G.2.1 0)), (2, .ref (G.2.1 28)), (3, .ref (G.2.1 47))]) hx hb dL_law_1629 hl (k := 6) rfl rfl (by decide) rfl (fun ls hl => ?_)
              refine lv_goto (tgt := 23) hx hb dL_law_1632 (by decide) ?_
              exact ih _ _ _ _ _ _ _ h (by omega) (by omega) hh (lv_sub hl [3, 4, 5, 6, 0] rfl)
            · have h := h.2 c9
              exact h.elim
        · have h := h.2 c9
          exact h.elim
      have h := h.2 c9_16
      by_cases c9_17 : ((xs l4.toNatClampNeg) &&& (31 : Int32)) = (17 : Int32)
      · have h := h.1 c9_17
        refine lv_tableIn (tgt := 1155) hx hb dL_law_40 (by rw [c9_17]; decide) (by rw [c9_17]; decide) (by rw [c9_17] <;> rfl) (by decide) ?_
        refine lv_aload_n hx hb dL_law_1155 rfl (lv_at hl 1 rfl) ?_
        refine lv_aload_n hx hb dL_law_1156 rfl (lv_at hl 0 rfl) ?_
        refine lv_iload hx hb dL_law_1157 (lv_at hl 4 rfl) ?_
        refine lv_iconst (v := (1 : Int32)) hx hb dL_law_1159 (by decide) ?_
        refine lv_iadd hx hb dL_law_1160 ?_
        obtain ⟨h0, h⟩ := h
        refine va_sld hx hb hX hbl hbA hh.2 h0 dL_law_1161 ?_
        refine lv_aload_n hx hb dL_law_1162 rfl (lv_at hl 3 rfl) ?_
        refine q_SL (As := [.ref (G.2.1 0), .int (xs (l4 + (1 : Int32)).toNatClampNeg), .ref (G.2.1 47)]) (rest := []) E hh (c_L_finish l G _ _ _ _ hst h) (vx_cwSW 3 hts gL_law_L_finish rfl rfl rfl (by decide +kernel) ⟨Nat.le_of_ble_eq_true rfl, Nat.le_of_ble_eq_true rfl⟩) rfl hl.1 rfl (Nat.le_of_ble_eq_true rfl) dL_law_1163 ⟨(by omega : cells + 1 ≤ 1086), (by omega : slots + 6 ≤ 10650)⟩ (fun r1163 s1163 H locs h hh => ?_)
        refine lv_istore (lv' := [(5, .int r1163), (0, .ref b), (1, .ref (G.2.1 0)), (2, .ref (G.2.1 28)), (3, .ref (G.2.1 47)), (4, .int l4)]) hx hb dL_law_1166 hl (by decide) rfl (fun ls hl => ?_)
        refine lv_aload_n hx hb dL_law_1168 rfl (lv_at hl 3 rfl) ?_
        refine lv_aload_n hx hb dL_law_1169 rfl (lv_at hl 1 rfl) ?_
        refine lv_iload hx hb dL_law_1170 (lv_at hl 5 rfl) ?_
        refine lv_iconst (v := (1 : Int32)) hx hb dL_law_1172 (by decide) ?_
        refine lv_iadd hx hb dL_law_1173 ?_
        obtain ⟨h0, h⟩ := h
        refine va_sld hx hb hX hbl hbA hh.2 h0 dL_law_1174 ?_
        refine q_Vi (As := [.int (xs (l4 + (1 : Int32)).toNatClampNeg)]) (rest := []) E hh (c_X9_finish l G _ _ _ _ h) (cwV 1 hts gL_law_X9_finish rfl rfl rfl (by decide +kernel) ⟨Nat.le_of_ble_eq_true rfl, Nat.le_of_ble_eq_true rfl⟩) (va_recv (ci := 9) E.2.1 hh.1 rfl (WW_at_28 G s1163)) rfl hl.1 rfl (Nat.le_of_ble_eq_true rfl) dL_law_1175 ⟨(by omega : cells + 1 ≤ 1086), (by omega : slots + 6 ≤ 10650)⟩ (fun r1175 s1175 H locs h hh => ?_)
        refine lv_istore (lv' := [(6, .int r1175), (5, .int r1163), (0, .ref b), (1, .ref (G.2.1 0)), (2, .ref (G.2.1 28)), (3, .ref (G.2.1 47)), (4, .int l4)]) hx hb dL_law_1178 hl (by decide) rfl (fun ls hl => ?_)
        refine lv_aload_n hx hb dL_law_1180 rfl (lv_at hl 4 rfl) ?_
        refine q_Vi (As := []) (rest := []) E hh (c_X9_thrown l G _ _  _ h) (cwV 0 hts gL_law_X9_thrown rfl rfl rfl (by decide +kernel) ⟨Nat.le_of_ble_eq_true rfl, Nat.le_of_ble_eq_true rfl⟩) (va_recv (ci := 9) E.2.1 hh.1 rfl (WW_at_28 G s1175)) rfl hl.1 rfl (Nat.le_of_ble_eq_true rfl) dL_law_1181 ⟨(by omega : cells + 1 ≤ 1086), (by omega : slots + 6 ≤ 10650)⟩ (fun r1181 s1181 H locs h hh => ?_)
        refine lv_iload hx hb dL_law_1184 (lv_at hl 1 rfl) ?_
        refine lv_icmp_eq (tgt := 1191) hx hb dL_law_1186 (by decide) (fun c9 => ?_) (fun c9 => ?_)
        · have h := h.1 c9
          refine lv_iload hx hb dL_law_1191 (lv_at hl 1 rfl) ?_
          refine lv_if_ne (tgt := 1208) hx hb dL_law_1193 (by decide) (fun c9 => ?_) (fun c9 => ?_)
          · have h := h.1 c9
            refine lv_goto (tgt := 1629) hx hb dL_law_1208 (by decide) ?_
            refine lv_iinc (v := (l4 + 6)) (lv' := [(4, .int (l4 + 6)), (6, .int r1175), (5, .int r1163), (0, .ref b), (1, .ref (G.2.1 0)), (2, .ref (G.2.1 28)), (3, .ref (G.2.1 47))]) hx hb dL_law_1629 hl (k := 6) rfl rfl (by decide) rfl (fun ls hl => ?_)
            refine lv_goto (tgt := 23) hx hb dL_law_1632 (by decide) ?_
            exact ih _ _ _ _ _ _ _ h (by omega) (by omega) hh (lv_sub hl [3, 4, 5, 6, 0] rfl)
          · have h := h.2 c9
            refine lv_aload_n hx hb dL_law_1196 rfl (lv_at hl 5 rfl) ?_
            refine lv_iconst (v := (0 : Int32)) hx hb dL_law_1197 (by decide) ?_
            refine q_lald E hh 47 (WW_at_47 G s1181) (vp_in_nI (n := 0) (by decide) (by decide)) dL_law_1198 ?_
            refine lv_iload hx hb dL_law_1199 (lv_at hl 0 rfl) ?_
            refine lv_i2l (v := r1175.toInt64) hx hb dL_law_1201 rfl ?_
            refine W.lcmp hx hb dL_law_1202 ?_
            refine lv_if_eq (tgt := 1208) hx hb dL_law_1203 (by decide) (fun c9 => ?_) (fun c9 => ?_)
            · have h := h.1 c9
              refine lv_goto (tgt := 1629) hx hb dL_law_1208 (by decide) ?_
              refine lv_iinc (v := (l4 + 6)) (lv' := [(4, .int (l4 + 6)), (6, .int r1175), (5, .int r1163), (0, .ref b), (1, .ref (G.2.1 0)), (2, .ref (G.2.1 28)), (3, .ref (G.2.1 47))]) hx hb dL_law_1629 hl (k := 6) rfl rfl (by decide) rfl (fun ls hl => ?_)
              refine lv_goto (tgt := 23) hx hb dL_law_1632 (by decide) ?_
              exact ih _ _ _ _ _ _ _ h (by omega) (by omega) hh (lv_sub hl [3, 4, 5, 6, 0] rfl)
            · have h := h.2 c9
              exact h.elim
        · have h := h.2 c9
          exact h.elim
      have h := h.2 c9_17
      by_cases c9_18 : ((xs l4.toNatClampNeg) &&& (31 : Int32)) = (18 : Int32)
      · have h := h.1 c9_18
        refine lv_tableIn (tgt := 1211) hx hb dL_law_40 (by rw [c9_18]; decide) (by rw [c9_18]; decide) (by rw [c9_18] <;> rfl) (by decide) ?_
        refine lv_aload_n hx hb dL_law_1211 rfl (lv_at hl 1 rfl) ?_
        refine q_Vi (As := []) (rest := []) E hh (c_X8_end l G _ _  _ h) (cwV 0 hts gL_law_X8_end rfl rfl rfl (by decide +kernel) ⟨Nat.le_of_ble_eq_true rfl, Nat.le_of_ble_eq_true rfl⟩) (va_recv (ci := 8) E.2.1 hh.1 rfl (WW_at_0 G σ)) rfl hl.1 rfl (Nat.le_of_ble_eq_true rfl) dL_law_1212 ⟨(by omega : cells ≤ 1086), (by omega : slots ≤ 10650)⟩ (fun r1212 s1212 H locs h hh => ?_)
        refine lv_aload_n hx hb dL_law_1215 rfl (lv_at hl 2 rfl) ?_
        refine q_Vi (As := []) (rest := [.int r1212]) E hh (c_X9_end l G _ _  _ h) (cwV 0 hts gL_law_X9_end rfl rfl rfl (by decide +kernel) ⟨Nat.le_of_ble_eq_true rfl, Nat.le_of_ble_eq_true rfl⟩) (va_recv (ci := 9) E.2.1 hh.1 rfl (WW_at_28 G s1212)) rfl hl.1 rfl (Nat.le_of_ble_eq_true rfl) dL_law_1216 ⟨(by omega : cells ≤ 1086), (by omega : slots ≤ 10650)⟩ (fun r1216 s1216 H locs h hh => ?_)
        refine lv_icmp_eq (tgt := 1629) hx hb dL_law_1219 (by decide) (fun c9 => ?_) (fun c9 => ?_)
        · have h := h.1 c9
          refine lv_iinc (v := (l4 + 6)) (lv' := [(4, .int (l4 + 6)), (0, .ref b), (1, .ref (G.2.1 0)), (2, .ref (G.2.1 28)), (3, .ref (G.2.1 47))]) hx hb dL_law_1629 hl (k := 4) rfl rfl (by decide) rfl (fun ls hl => ?_)
          refine lv_goto (tgt := 23) hx hb dL_law_1632 (by decide) ?_
          exact ih _ _ _ _ _ _ _ h (by omega) (by omega) hh (lv_sub hl [1, 2, 3, 4, 0] rfl)
        · have h := h.2 c9
          exact h.elim
      have h := h.2 c9_18
      by_cases c9_19 : ((xs l4.toNatClampNeg) &&& (31 : Int32)) = (19 : Int32)
      · have h := h.1 c9_19
        refine lv_tableIn (tgt := 1224) hx hb dL_law_40 (by rw [c9_19]; decide) (by rw [c9_19]; decide) (by rw [c9_19] <;> rfl) (by decide) ?_
        refine lv_aload_n hx hb dL_law_1224 rfl (lv_at hl 1 rfl) ?_
        refine lv_aload_n hx hb dL_law_1225 rfl (lv_at hl 0 rfl) ?_
        refine lv_iload hx hb dL_law_1226 (lv_at hl 4 rfl) ?_
        refine lv_iconst (v := (1 : Int32)) hx hb dL_law_1228 (by decide) ?_
        refine lv_iadd hx hb dL_law_1229 ?_
        obtain ⟨h0, h⟩ := h
        refine va_sld hx hb hX hbl hbA hh.2 h0 dL_law_1230 ?_
        refine lv_aload_n hx hb dL_law_1231 rfl (lv_at hl 0 rfl) ?_
        refine lv_iload hx hb dL_law_1232 (lv_at hl 4 rfl) ?_
        refine lv_iconst (v := (2 : Int32)) hx hb dL_law_1234 (by decide) ?_
        refine lv_iadd hx hb dL_law_1235 ?_
        obtain ⟨h0, h⟩ := h
        refine va_sld hx hb hX hbl hbA hh.2 h0 dL_law_1236 ?_
        refine lv_aload_n hx hb dL_law_1237 rfl (lv_at hl 3 rfl) ?_
        refine q_SL (As := [.ref (G.2.1 0), .int (xs (l4 + (1 : Int32)).toNatClampNeg), .int (xs (l4 + (2 : Int32)).toNatClampNeg), .ref (G.2.1 47)]) (rest := []) E hh (c_L_points l G _ _ _ _ _ hst h) (vx_cwSW 4 hts gL_law_L_points rfl rfl rfl (by decide +kernel) ⟨Nat.le_of_ble_eq_true rfl, Nat.le_of_ble_eq_true rfl⟩) rfl hl.1 rfl (Nat.le_of_ble_eq_true rfl) dL_law_1238 ⟨(by omega : cells + 1 ≤ 1086), (by omega : slots + 6 ≤ 10650)⟩ (fun r1238 s1238 H locs h hh => ?_)
        refine lv_istore (lv' := [(5, .int r1238), (0, .ref b), (1, .ref (G.2.1 0)), (2, .ref (G.2.1 28)), (3, .ref (G.2.1 47)), (4, .int l4)]) hx hb dL_law_1241 hl (by decide) rfl (fun ls hl => ?_)
        refine lv_aload_n hx hb dL_law_1243 rfl (lv_at hl 3 rfl) ?_
        refine lv_aload_n hx hb dL_law_1244 rfl (lv_at hl 1 rfl) ?_
        refine lv_iload hx hb dL_law_1245 (lv_at hl 5 rfl) ?_
        refine lv_iconst (v := (1 : Int32)) hx hb dL_law_1247 (by decide) ?_
        refine lv_iadd hx hb dL_law_1248 ?_
        obtain ⟨h0, h⟩ := h
        refine va_sld hx hb hX hbl hbA hh.2 h0 dL_law_1249 ?_
        refine lv_aload_n hx hb dL_law_1250 rfl (lv_at hl 1 rfl) ?_
        refine lv_iload hx hb dL_law_1251 (lv_at hl 5 rfl) ?_
        refine lv_iconst (v := (2 : Int32)) hx hb dL_law_1253 (by decide) ?_
        refine lv_iadd hx hb dL_law_1254 ?_
        obtain ⟨h0, h⟩ := h
        refine va_sld hx hb hX hbl hbA hh.2 h0 dL_law_1255 ?_
        refine q_Vi (As := [.int (xs (l4 + (1 : Int32)).toNatClampNeg), .int (xs (l4 + (2 : Int32)).toNatClampNeg)]) (rest := []) E hh (c_X9_points l G _ _ _ _ _ h) (cwV 2 hts gL_law_X9_points rfl rfl rfl (by decide +kernel) ⟨Nat.le_of_ble_eq_true rfl, Nat.le_of_ble_eq_true rfl⟩) (va_recv (ci := 9) E.2.1 hh.1 rfl (WW_at_28 G s1238)) rfl hl.1 rfl (Nat.le_of_ble_eq_true rfl) dL_law_1256 ⟨(by omega : cells + 1 ≤ 1086), (by omega : slots + 6 ≤ 10650)⟩ (fun r1256 s1256 H locs h hh => ?_)
        refine lv_istore (lv' := [(6, .int r1256), (5, .int r1238), (0, .ref b), (1, .ref (G.2.1 0)), (2, .ref (G.2.1 28)), (3, .ref (G.2.1 47)), (4, .int l4)]) hx hb dL_law_1259 hl (by decide) rfl (fun ls hl => ?_)
        refine lv_aload_n hx hb dL_law_1261 rfl (lv_at hl 4 rfl) ?_
        refine q_Vi (As := []) (rest := []) E hh (c_X9_thrown l G _ _  _ h) (cwV 0 hts gL_law_X9_thrown rfl rfl rfl (by decide +kernel) ⟨Nat.le_of_ble_eq_true rfl, Nat.le_of_ble_eq_true rfl⟩) (va_recv (ci := 9) E.2.1 hh.1 rfl (WW_at_28 G s1256)) rfl hl.1 rfl (Nat.le_of_ble_eq_true rfl) dL_law_1262 ⟨(by omega : cells + 1 ≤ 1086), (by omega : slots + 6 ≤ 10650)⟩ (fun r1262 s1262 H locs h hh => ?_)
        refine lv_iload hx hb dL_law_1265 (lv_at hl 1 rfl) ?_
        refine lv_icmp_eq (tgt := 1272) hx hb dL_law_1267 (by decide) (fun c9 => ?_) (fun c9 => ?_)
        · have h := h.1 c9
          refine lv_iload hx hb dL_law_1272 (lv_at hl 1 rfl) ?_
          refine lv_if_ne (tgt := 1289) hx hb dL_law_1274 (by decide) (fun c9 => ?_) (fun c9 => ?_)
          · have h := h.1 c9
            refine lv_goto (tgt := 1629) hx hb dL_law_1289 (by decide) ?_
            refine lv_iinc (v := (l4 + 6)) (lv' := [(4, .int (l4 + 6)), (6, .int r1256), (5, .int r1238), (0, .ref b), (1, .ref (G.2.1 0)), (2, .ref (G.2.1 28)), (3, .ref (G.2.1 47))]) hx hb dL_law_1629 hl (k := 6) rfl rfl (by decide) rfl (fun ls hl => ?_)
            refine lv_goto (tgt := 23) hx hb dL_law_1632 (by decide) ?_
            exact ih _ _ _ _ _ _ _ h (by omega) (by omega) hh (lv_sub hl [3, 4, 5, 6, 0] rfl)
          · have h := h.2 c9
            refine lv_aload_n hx hb dL_law_1277 rfl (lv_at hl 5 rfl) ?_
            refine lv_iconst (v := (0 : Int32)) hx hb dL_law_1278 (by decide) ?_
            refine q_lald E hh 47 (WW_at_47 G s1262) (vp_in_nI (n := 0) (by decide) (by decide)) dL_law_1279 ?_
            refine lv_iload hx hb dL_law_1280 (lv_at hl 0 rfl) ?_
            refine lv_i2l (v := r1256.toInt64) hx hb dL_law_1282 rfl ?_
            refine W.lcmp hx hb dL_law_1283 ?_
            refine lv_if_eq (tgt := 1289) hx hb dL_law_1284 (by decide) (fun c9 => ?_) (fun c9 => ?_)
            · have h := h.1 c9
              refine lv_goto (tgt := 1629) hx hb dL_law_1289 (by decide) ?_
              refine lv_iinc (v := (l4 + 6)) (lv' := [(4, .int (l4 + 6)), (6, .int r1256), (5, .int r1238), (0, .ref b), (1, .ref (G.2.1 0)), (2, .ref (G.2.1 28)), (3, .ref (G.2.1 47))]) hx hb dL_law_1629 hl (k := 6) rfl rfl (by decide) rfl (fun ls hl => ?_)
              refine lv_goto (tgt := 23) hx hb dL_law_1632 (by decide) ?_
              exact ih _ _ _ _ _ _ _ h (by omega) (by omega) hh (lv_sub hl [3, 4, 5, 6, 0] rfl)
            · have h := h.2 c9
              exact h.elim
        · have h := h.2 c9
          exact h.elim
      have h := h.2 c9_19
      by_cases c9_20 : ((xs l4.toNatClampNeg) &&& (31 : Int32)) = (20 : Int32)
      · have h := h.1 c9_20
        refine lv_tableIn (tgt := 1292) hx hb dL_law_40 (by rw [c9_20]; decide) (by rw [c9_20]; decide) (by rw [c9_20] <;> rfl) (by decide) ?_
        refine lv_aload_n hx hb dL_law_1292 rfl (lv_at hl 1 rfl) ?_
        refine lv_aload_n hx hb dL_law_1293 rfl (lv_at hl 0 rfl) ?_
        refine lv_iload hx hb dL_law_1294 (lv_at hl 4 rfl) ?_
        refine lv_iconst (v := (1 : Int32)) hx hb dL_law_1296 (by decide) ?_
        refine lv_iadd hx hb dL_law_1297 ?_
        obtain ⟨h0, h⟩ := h
        refine va_sld hx hb hX hbl hbA hh.2 h0 dL_law_1298 ?_
        refine lv_aload_n hx hb dL_law_1299 rfl (lv_at hl 3 rfl) ?_
        refine q_SL (As := [.ref (G.2.1 0), .int (xs (l4 + (1 : Int32)).toNatClampNeg), .ref (G.2.1 47)]) (rest := []) E hh (c_L_score l G _ _ _ _ hst h) (vx_cwSW 3 hts gL_law_L_score rfl rfl rfl (by decide +kernel) ⟨Nat.le_of_ble_eq_true rfl, Nat.le_of_ble_eq_true rfl⟩) rfl hl.1 rfl (Nat.le_of_ble_eq_true rfl) dL_law_1300 ⟨(by omega : cells + 1 ≤ 1086), (by omega : slots + 6 ≤ 10650)⟩ (fun r1300 s1300 H locs h hh => ?_)
        refine lv_istore (lv' := [(5, .int r1300), (0, .ref b), (1, .ref (G.2.1 0)), (2, .ref (G.2.1 28)), (3, .ref (G.2.1 47)), (4, .int l4)]) hx hb dL_law_1303 hl (by decide) rfl (fun ls hl => ?_)
        refine lv_aload_n hx hb dL_law_1305 rfl (lv_at hl 3 rfl) ?_
        refine lv_aload_n hx hb dL_law_1306 rfl (lv_at hl 1 rfl) ?_
        refine lv_iload hx hb dL_law_1307 (lv_at hl 5 rfl) ?_
        refine lv_iconst (v := (1 : Int32)) hx hb dL_law_1309 (by decide) ?_
        refine lv_iadd hx hb dL_law_1310 ?_
        obtain ⟨h0, h⟩ := h
        refine va_sld hx hb hX hbl hbA hh.2 h0 dL_law_1311 ?_
        refine q_Vi (As := [.int (xs (l4 + (1 : Int32)).toNatClampNeg)]) (rest := []) E hh (c_X9_score l G _ _ _ _ h) (cwV 1 hts gL_law_X9_score rfl rfl rfl (by decide +kernel) ⟨Nat.le_of_ble_eq_true rfl, Nat.le_of_ble_eq_true rfl⟩) (va_recv (ci := 9) E.2.1 hh.1 rfl (WW_at_28 G s1300)) rfl hl.1 rfl (Nat.le_of_ble_eq_true rfl) dL_law_1312 ⟨(by omega : cells + 1 ≤ 1086), (by omega : slots + 6 ≤ 10650)⟩ (fun r1312 s1312 H locs h hh => ?_)
        refine lv_istore (lv' := [(6, .int r1312), (5, .int r1300), (0, .ref b), (1, .ref (G.2.1 0)), (2, .ref (G.2.1 28)), (3, .ref (G.2.1 47)), (4, .int l4)]) hx hb dL_law_1315 hl (by decide) rfl (fun ls hl => ?_)
        refine lv_aload_n hx hb dL_law_1317 rfl (lv_at hl 4 rfl) ?_
        refine q_Vi (As := []) (rest := []) E hh (c_X9_thrown l G _ _  _ h) (cwV 0 hts gL_law_X9_thrown rfl rfl rfl (by decide +kernel) ⟨Nat.le_of_ble_eq_true rfl, Nat.le_of_ble_eq_true rfl⟩) (va_recv (ci := 9) E.2.1 hh.1 rfl (WW_at_28 G s1312)) rfl hl.1 rfl (Nat.le_of_ble_eq_true rfl) dL_law_1318 ⟨(by omega : cells + 1 ≤ 1086), (by omega : slots + 6 ≤ 10650)⟩ (fun r1318 s1318 H locs h hh => ?_)
        refine lv_iload hx hb dL_law_1321 (lv_at hl 1 rfl) ?_
        refine lv_icmp_eq (tgt := 1328) hx hb dL_law_1323 (by decide) (fun c9 => ?_) (fun c9 => ?_)
        · have h := h.1 c9
          refine lv_iload hx hb dL_law_1328 (lv_at hl 1 rfl) ?_
          refine lv_if_ne (tgt := 1345) hx hb dL_law_1330 (by decide) (fun c9 => ?_) (fun c9 => ?_)
          · have h := h.1 c9
            refine lv_goto (tgt := 1629) hx hb dL_law_1345 (by decide) ?_
            refine lv_iinc (v := (l4 + 6)) (lv' := [(4, .int (l4 + 6)), (6, .int r1312), (5, .int r1300), (0, .ref b), (1, .ref (G.2.1 0)), (2, .ref (G.2.1 28)), (3, .ref (G.2.1 47))]) hx hb dL_law_1629 hl (k := 6) rfl rfl (by decide) rfl (fun ls hl => ?_)
            refine lv_goto (tgt := 23) hx hb dL_law_1632 (by decide) ?_
            exact ih _ _ _ _ _ _ _ h (by omega) (by omega) hh (lv_sub hl [3, 4, 5, 6, 0] rfl)
          · have h := h.2 c9
            refine lv_aload_n hx hb dL_law_1333 rfl (lv_at hl 5 rfl) ?_
            refine lv_iconst (v := (0 : Int32)) hx hb dL_law_1334 (by decide) ?_
            refine q_lald E hh 47 (WW_at_47 G s1318) (vp_in_nI (n := 0) (by decide) (by decide)) dL_law_1335 ?_
            refine lv_iload hx hb dL_law_1336 (lv_at hl 0 rfl) ?_
            refine lv_i2l (v := r1312.toInt64) hx hb dL_law_1338 rfl ?_
            refine W.lcmp hx hb dL_law_1339 ?_
            refine lv_if_eq (tgt := 1345) hx hb dL_law_1340 (by decide) (fun c9 => ?_) (fun c9 => ?_)
            · have h := h.1 c9
              refine lv_goto (tgt := 1629) hx hb dL_law_1345 (by decide) ?_
              refine lv_iinc (v := (l4 + 6)) (lv' := [(4, .int (l4 + 6)), (6, .int r1312), (5, .int r1300), (0, .ref b), (1, .ref (G.2.1 0)), (2, .ref (G.2.1 28)), (3, .ref (G.2.1 47))]) hx hb dL_law_1629 hl (k := 6) rfl rfl (by decide) rfl (fun ls hl => ?_)
              refine lv_goto (tgt := 23) hx hb dL_law_1632 (by decide) ?_
              exact ih _ _ _ _ _ _ _ h (by omega) (by omega) hh (lv_sub hl [3, 4, 5, 6, 0] rfl)
            · have h := h.2 c9
              exact h.elim
        · have h := h.2 c9
          exact h.elim
      have h := h.2 c9_20
      by_cases c9_21 : ((xs l4.toNatClampNeg) &&& (31 : Int32)) = (21 : Int32)
      · have h := h.1 c9_21
        refine lv_tableIn (tgt := 1348) hx hb dL_law_40 (by rw [c9_21]; decide) (by rw [c9_21]; decide) (by rw [c9_21] <;> rfl) (by decide) ?_
        refine lv_aload_n hx hb dL_law_1348 rfl (lv_at hl 1 rfl) ?_
        refine lv_aload_n hx hb dL_law_1349 rfl (lv_at hl 0 rfl) ?_
        refine lv_iload hx hb dL_law_1350 (lv_at hl 4 rfl) ?_
        refine lv_iconst (v := (1 : Int32)) hx hb dL_law_1352 (by decide) ?_
        refine lv_iadd hx hb dL_law_1353 ?_
        obtain ⟨h0, h⟩ := h
        refine va_sld hx hb hX hbl hbA hh.2 h0 dL_law_1354 ?_
        refine q_Vi (As := [.int (xs (l4 + (1 : Int32)).toNatClampNeg)]) (rest := []) E hh (c_X8_rank l G _ _ _ _ h) (cwV 1 hts gL_law_X8_rank rfl rfl rfl (by decide +kernel) ⟨Nat.le_of_ble_eq_true rfl, Nat.le_of_ble_eq_true rfl⟩) (va_recv (ci := 8) E.2.1 hh.1 rfl (WW_at_0 G σ)) rfl hl.1 rfl (Nat.le_of_ble_eq_true rfl) dL_law_1355 ⟨(by omega : cells ≤ 1086), (by omega : slots ≤ 10650)⟩ (fun r1355 s1355 H locs h hh => ?_)
        refine lv_aload_n hx hb dL_law_1358 rfl (lv_at hl 2 rfl) ?_
        refine lv_aload_n hx hb dL_law_1359 rfl (lv_at hl 0 rfl) ?_
        refine lv_iload hx hb dL_law_1360 (lv_at hl 4 rfl) ?_
        refine lv_iconst (v := (1 : Int32)) hx hb dL_law_1362 (by decide) ?_
        refine lv_iadd hx hb dL_law_1363 ?_
        obtain ⟨h0, h⟩ := h
        refine va_sld hx hb hX hbl hbA hh.2 h0 dL_law_1364 ?_
        refine q_Vi (As := [.int (xs (l4 + (1 : Int32)).toNatClampNeg)]) (rest := [.int r1355]) E hh (c_X9_rank l G _ _ _ _ h) (cwV 1 hts gL_law_X9_rank rfl rfl rfl (by decide +kernel) ⟨Nat.le_of_ble_eq_true rfl, Nat.le_of_ble_eq_true rfl⟩) (va_recv (ci := 9) E.2.1 hh.1 rfl (WW_at_28 G s1355)) rfl hl.1 rfl (Nat.le_of_ble_eq_true rfl) dL_law_1365 ⟨(by omega : cells ≤ 1086), (by omega : slots ≤ 10650)⟩ (fun r1365 s1365 H locs h hh => ?_)
        refine lv_icmp_eq (tgt := 1629) hx hb dL_law_1368 (by decide) (fun c9 => ?_) (fun c9 => ?_)
        · have h := h.1 c9
          refine lv_iinc (v := (l4 + 6)) (lv' := [(4, .int (l4 + 6)), (0, .ref b), (1, .ref (G.2.1 0)), (2, .ref (G.2.1 28)), (3, .ref (G.2.1 47))]) hx hb dL_law_1629 hl (k := 4) rfl rfl (by decide) rfl (fun ls hl => ?_)
          refine lv_goto (tgt := 23) hx hb dL_law_1632 (by decide) ?_
          exact ih _ _ _ _ _ _ _ h (by omega) (by omega) hh (lv_sub hl [1, 2, 3, 4, 0] rfl)
        · have h := h.2 c9
          exact h.elim
      have h := h.2 c9_21
      by_cases c9_22 : ((xs l4.toNatClampNeg) &&& (31 : Int32)) = (22 : Int32)
      · have h := h.1 c9_22
        refine lv_tableIn (tgt := 1373) hx hb dL_law_40 (by rw [c9_22]; decide) (by rw [c9_22]; decide) (by rw [c9_22] <;> rfl) (by decide) ?_
        refine lv_aload_n hx hb dL_law_1373 rfl (lv_at hl 1 rfl) ?_
        refine lv_aload_n hx hb dL_law_1374 rfl (lv_at hl 0 rfl) ?_
        refine lv_iload hx hb dL_law_1375 (lv_at hl 4 rfl) ?_
        refine lv_iconst (v := (1 : Int32)) hx hb dL_law_1377 (by decide) ?_
        refine lv_iadd hx hb dL_law_1378 ?_
        obtain ⟨h0, h⟩ := h
        refine va_sld hx hb hX hbl hbA hh.2 h0 dL_law_1379 ?_
        refine lv_aload_n hx hb dL_law_1380 rfl (lv_at hl 3 rfl) ?_
        refine q_SL (As := [.ref (G.2.1 0), .int (xs (l4 + (1 : Int32)).toNatClampNeg), .ref (G.2.1 47)]) (rest := []) E hh (c_L_part l G _ _ _ _ hst h) (vx_cwSW 3 hts gL_law_L_part rfl rfl rfl (by decide +kernel) ⟨Nat.le_of_ble_eq_true rfl, Nat.le_of_ble_eq_true rfl⟩) rfl hl.1 rfl (Nat.le_of_ble_eq_true rfl) dL_law_1381 ⟨(by omega : cells + 1 ≤ 1086), (by omega : slots + 6 ≤ 10650)⟩ (fun r1381 s1381 H locs h hh => ?_)
        refine lv_istore (lv' := [(5, .int r1381), (0, .ref b), (1, .ref (G.2.1 0)), (2, .ref (G.2.1 28)), (3, .ref (G.2.1 47)), (4, .int l4)]) hx hb dL_law_1384 hl (by decide) rfl (fun ls hl => ?_)
        refine lv_aload_n hx hb dL_law_1386 rfl (lv_at hl 3 rfl) ?_
        refine lv_aload_n hx hb dL_law_1387 rfl (lv_at hl 1 rfl) ?_
        refine lv_iload hx hb dL_law_1388 (lv_at hl 5 rfl) ?_
        refine lv_iconst (v := (1 : Int32)) hx hb dL_law_1390 (by decide) ?_
        refine lv_iadd hx hb dL_law_1391 ?_
        obtain ⟨h0, h⟩ := h
        refine va_sld hx hb hX hbl hbA hh.2 h0 dL_law_1392 ?_
        refine q_Vi (As := [.int (xs (l4 + (1 : Int32)).toNatClampNeg)]) (rest := []) E hh (c_X9_part l G _ _ _ _ h) (cwV 1 hts gL_law_X9_part rfl rfl rfl (by decide +kernel) ⟨Nat.le_of_ble_eq_true rfl, Nat.le_of_ble_eq_true rfl⟩) (va_recv (ci := 9) E.2.1 hh.1 rfl (WW_at_28 G s1381)) rfl hl.1 rfl (Nat.le_of_ble_eq_true rfl) dL_law_1393 ⟨(by omega : cells + 1 ≤ 1086), (by omega : slots + 6 ≤ 10650)⟩ (fun r1393 s1393 H locs h hh => ?_)
        refine lv_istore (lv' := [(6, .int r1393), (5, .int r1381), (0, .ref b), (1, .ref (G.2.1 0)), (2, .ref (G.2.1 28)), (3, .ref (G.2.1 47)), (4, .int l4)]) hx hb dL_law_1396 hl (by decide) rfl (fun ls hl => ?_)
        refine lv_aload_n hx hb dL_law_1398 rfl (lv_at hl 4 rfl) ?_
        refine q_Vi (As := []) (rest := []) E hh (c_X9_thrown l G _ _  _ h) (cwV 0 hts gL_law_X9_thrown rfl rfl rfl (by decide +kernel) ⟨Nat.le_of_ble_eq_true rfl, Nat.le_of_ble_eq_true rfl⟩) (va_recv (ci := 9) E.2.1 hh.1 rfl (WW_at_28 G s1393)) rfl hl.1 rfl (Nat.le_of_ble_eq_true rfl) dL_law_1399 ⟨(by omega : cells + 1 ≤ 1086), (by omega : slots + 6 ≤ 10650)⟩ (fun r1399 s1399 H locs h hh => ?_)
        refine lv_iload hx hb dL_law_1402 (lv_at hl 1 rfl) ?_
        refine lv_icmp_eq (tgt := 1409) hx hb dL_law_1404 (by decide) (fun c9 => ?_) (fun c9 => ?_)
        · have h := h.1 c9
          refine lv_iload hx hb dL_law_1409 (lv_at hl 1 rfl) ?_
          refine lv_if_ne (tgt := 1426) hx hb dL_law_1411 (by decide) (fun c9 => ?_) (fun c9 => ?_)
          · have h := h.1 c9
            refine lv_goto (tgt := 1629) hx hb dL_law_1426 (by decide) ?_
            refine lv_iinc (v := (l4 + 6)) (lv' := [(4, .int (l4 + 6)), (6, .int r1393), (5, .int r1381), (0, .ref b), (1, .ref (G.2.1 0)), (2, .ref (G.2.1 28)), (3, .ref (G.2.1 47))]) hx hb dL_law_1629 hl (k := 6) rfl rfl (by decide) rfl (fun ls hl => ?_)
            refine lv_goto (tgt := 23) hx hb dL_law_1632 (by decide) ?_
            exact ih _ _ _ _ _ _ _ h (by omega) (by omega) hh (lv_sub hl [3, 4, 5, 6, 0] rfl)
          · have h := h.2 c9
            refine lv_aload_n hx hb dL_law_1414 rfl (lv_at hl 5 rfl) ?_
            refine lv_iconst (v := (0 : Int32)) hx hb dL_law_1415 (by decide) ?_
            refine q_lald E hh 47 (WW_at_47 G s1399) (vp_in_nI (n := 0) (by decide) (by decide)) dL_law_1416 ?_
            refine lv_iload hx hb dL_law_1417 (lv_at hl 0 rfl) ?_
            refine lv_i2l (v := r1393.toInt64) hx hb dL_law_1419 rfl ?_
            refine W.lcmp hx hb dL_law_1420 ?_
            refine lv_if_eq (tgt := 1426) hx hb dL_law_1421 (by decide) (fun c9 => ?_) (fun c9 => ?_)
            · have h := h.1 c9
              refine lv_goto (tgt := 1629) hx hb dL_law_1426 (by decide) ?_
              refine lv_iinc (v := (l4 + 6)) (lv' := [(4, .int (l4 + 6)), (6, .int r1393), (5, .int r1381), (0, .ref b), (1, .ref (G.2.1 0)), (2, .ref (G.2.1 28)), (3, .ref (G.2.1 47))]) hx hb dL_law_1629 hl (k := 6) rfl rfl (by decide) rfl (fun ls hl => ?_)
              refine lv_goto (tgt := 23) hx hb dL_law_1632 (by decide) ?_
              exact ih _ _ _ _ _ _ _ h (by omega) (by omega) hh (lv_sub hl [3, 4, 5, 6, 0] rfl)
            · have h := h.2 c9
              exact h.elim
        · have h := h.2 c9
          exact h.elim
      have h := h.2 c9_22
      by_cases c9_23 : ((xs l4.toNatClampNeg) &&& (31 : Int32)) = (23 : Int32)
      · have h := h.1 c9_23
        refine lv_tableIn (tgt := 1429) hx hb dL_law_40 (by rw [c9_23]; decide) (by rw [c9_23]; decide) (by rw [c9_23] <;> rfl) (by decide) ?_
        refine lv_aload_n hx hb dL_law_1429 rfl (lv_at hl 1 rfl) ?_
        refine lv_aload_n hx hb dL_law_1430 rfl (lv_at hl 0 rfl) ?_
        refine lv_iload hx hb dL_law_1431 (lv_at hl 4 rfl) ?_
        refine lv_iconst (v := (1 : Int32)) hx hb dL_law_1433 (by decide) ?_
        refine lv_iadd hx hb dL_law_1434 ?_
        obtain ⟨h0, h⟩ := h
        refine va_sld hx hb hX hbl hbA hh.2 h0 dL_law_1435 ?_
        refine lv_aload_n hx hb dL_law_1436 rfl (lv_at hl 3 rfl) ?_
        refine q_SL (As := [.ref (G.2.1 0), .int (xs (l4 + (1 : Int32)).toNatClampNeg), .ref (G.2.1 47)]) (rest := []) E hh (c_L_promote l G _ _ _ _ hst h) (vx_cwSW 3 hts gL_law_L_promote rfl rfl rfl (by decide +kernel) ⟨Nat.le_of_ble_eq_true rfl, Nat.le_of_ble_eq_true rfl⟩) rfl hl.1 rfl (Nat.le_of_ble_eq_true rfl) dL_law_1437 ⟨(by omega : cells + 1 ≤ 1086), (by omega : slots + 6 ≤ 10650)⟩ (fun r1437 s1437 H locs h hh => ?_)
        refine lv_istore (lv' := [(5, .int r1437), (0, .ref b), (1, .ref (G.2.1 0)), (2, .ref (G.2.1 28)), (3, .ref (G.2.1 47)), (4, .int l4)]) hx hb dL_law_1440 hl (by decide) rfl (fun ls hl => ?_)
        refine lv_aload_n hx hb dL_law_1442 rfl (lv_at hl 3 rfl) ?_
        refine lv_aload_n hx hb dL_law_1443 rfl (lv_at hl 1 rfl) ?_
        refine lv_iload hx hb dL_law_1444 (lv_at hl 5 rfl) ?_
        refine lv_iconst (v := (1 : Int32)) hx hb dL_law_1446 (by decide) ?_
        refine lv_iadd hx hb dL_law_1447 ?_
        obtain ⟨h0, h⟩ := h
        refine va_sld hx hb hX hbl hbA hh.2 h0 dL_law_1448 ?_
        refine q_Vi (As := [.int (xs (l4 + (1 : Int32)).toNatClampNeg)]) (rest := []) E hh (c_X9_promote l G _ _ _ _ h) (cwV 1 hts gL_law_X9_promote rfl rfl rfl (by decide +kernel) ⟨Nat.le_of_ble_eq_true rfl, Nat.le_of_ble_eq_true rfl⟩) (va_recv (ci := 9) E.2.1 hh.1 rfl (WW_at_28 G s1437)) rfl hl.1 rfl (Nat.le_of_ble_eq_true rfl) dL_law_1449 ⟨(by omega : cells + 1 ≤ 1086), (by omega : slots + 6 ≤ 10650)⟩ (fun r1449 s1449 H locs h hh => ?_)
        refine lv_istore (lv' := [(6, .int r1449), (5, .int r1437), (0, .ref b), (1, .ref (G.2.1 0)), (2, .ref (G.2.1 28)), (3, .ref (G.2.1 47)), (4, .int l4)]) hx hb dL_law_1452 hl (by decide) rfl (fun ls hl => ?_)
        refine lv_aload_n hx hb dL_law_1454 rfl (lv_at hl 4 rfl) ?_
        refine q_Vi (As := []) (rest := []) E hh (c_X9_thrown l G _ _  _ h) (cwV 0 hts gL_law_X9_thrown rfl rfl rfl (by decide +kernel) ⟨Nat.le_of_ble_eq_true rfl, Nat.le_of_ble_eq_true rfl⟩) (va_recv (ci := 9) E.2.1 hh.1 rfl (WW_at_28 G s1449)) rfl hl.1 rfl (Nat.le_of_ble_eq_true rfl) dL_law_1455 ⟨(by omega : cells + 1 ≤ 1086), (by omega : slots + 6 ≤ 10650)⟩ (fun r1455 s1455 H locs h hh => ?_)
        refine lv_iload hx hb dL_law_1458 (lv_at hl 1 rfl) ?_
        refine lv_icmp_eq (tgt := 1465) hx hb dL_law_1460 (by decide) (fun c9 => ?_) (fun c9 => ?_)
        · have h := h.1 c9
          refine lv_iload hx hb dL_law_1465 (lv_at hl 1 rfl) ?_
          refine lv_if_ne (tgt := 1482) hx hb dL_law_1467 (by decide) (fun c9 => ?_) (fun c9 => ?_)
          · have h := h.1 c9
            refine lv_goto (tgt := 1629) hx hb dL_law_1482 (by decide) ?_
            refine lv_iinc (v := (l4 + 6)) (lv' := [(4, .int (l4 + 6)), (6, .int r1449), (5, .int r1437), (0, .ref b), (1, .ref (G.2.1 0)), (2, .ref (G.2.1 28)), (3, .ref (G.2.1 47))]) hx hb dL_law_1629 hl (k := 6) rfl rfl (by decide) rfl (fun ls hl => ?_)
            refine lv_goto (tgt := 23) hx hb dL_law_1632 (by decide) ?_
            exact ih _ _ _ _ _ _ _ h (by omega) (by omega) hh (lv_sub hl [3, 4, 5, 6, 0] rfl)
          · have h := h.2 c9
            refine lv_aload_n hx hb dL_law_1470 rfl (lv_at hl 5 rfl) ?_
            refine lv_iconst (v := (0 : Int32)) hx hb dL_law_1471 (by decide) ?_
            refine q_lald E hh 47 (WW_at_47 G s1455) (vp_in_nI (n := 0) (by decide) (by decide)) dL_law_1472 ?_
            refine lv_iload hx hb dL_law_1473 (lv_at hl 0 rfl) ?_
            refine lv_i2l (v := r1449.toInt64) hx hb dL_law_1475 rfl ?_
            refine W.lcmp hx hb dL_law_1476 ?_
            refine lv_if_eq (tgt := 1482) hx hb dL_law_1477 (by decide) (fun c9 => ?_) (fun c9 => ?_)
            · have h := h.1 c9
              refine lv_goto (tgt := 1629) hx hb dL_law_1482 (by decide) ?_
              refine lv_iinc (v := (l4 + 6)) (lv' := [(4, .int (l4 + 6)), (6, .int r1449), (5, .int r1437), (0, .ref b), (1, .ref (G.2.1 0)), (2, .ref (G.2.1 28)), (3, .ref (G.2.1 47))]) hx hb dL_law_1629 hl (k := 6) rfl rfl (by decide) rfl (fun ls hl => ?_)
              refine lv_goto (tgt := 23) hx hb dL_law_1632 (by decide) ?_
              exact ih _ _ _ _ _ _ _ h (by omega) (by omega) hh (lv_sub hl [3, 4, 5, 6, 0] rfl)
            · have h := h.2 c9
              exact h.elim
        · have h := h.2 c9
          exact h.elim
      have h := h.2 c9_23
      by_cases c9_24 : ((xs l4.toNatClampNeg) &&& (31 : Int32)) = (24 : Int32)
      · have h := h.1 c9_24
        refine lv_tableIn (tgt := 1485) hx hb dL_law_40 (by rw [c9_24]; decide) (by rw [c9_24]; decide) (by rw [c9_24] <;> rfl) (by decide) ?_
        refine lv_aload_n hx hb dL_law_1485 rfl (lv_at hl 1 rfl) ?_
        refine lv_aload_n hx hb dL_law_1486 rfl (lv_at hl 0 rfl) ?_
        refine lv_iload hx hb dL_law_1487 (lv_at hl 4 rfl) ?_
        refine lv_iconst (v := (1 : Int32)) hx hb dL_law_1489 (by decide) ?_
        refine lv_iadd hx hb dL_law_1490 ?_
        obtain ⟨h0, h⟩ := h
        refine va_sld hx hb hX hbl hbA hh.2 h0 dL_law_1491 ?_
        refine lv_aload_n hx hb dL_law_1492 rfl (lv_at hl 3 rfl) ?_
        refine q_SL (As := [.ref (G.2.1 0), .int (xs (l4 + (1 : Int32)).toNatClampNeg), .ref (G.2.1 47)]) (rest := []) E hh (c_L_fleet l G _ _ _ _ hst h) (vx_cwSW 3 hts gL_law_L_fleet rfl rfl rfl (by decide +kernel) ⟨Nat.le_of_ble_eq_true rfl, Nat.le_of_ble_eq_true rfl⟩) rfl hl.1 rfl (Nat.le_of_ble_eq_true rfl) dL_law_1493 ⟨(by omega : cells + 1 ≤ 1086), (by omega : slots + 6 ≤ 10650)⟩ (fun r1493 s1493 H locs h hh => ?_)
        refine lv_istore (lv' := [(5, .int r1493), (0, .ref b), (1, .ref (G.2.1 0)), (2, .ref (G.2.1 28)), (3, .ref (G.2.1 47)), (4, .int l4)]) hx hb dL_law_1496 hl (by decide) rfl (fun ls hl => ?_)
        refine lv_aload_n hx hb dL_law_1498 rfl (lv_at hl 3 rfl) ?_
        refine lv_aload_n hx hb dL_law_1499 rfl (lv_at hl 1 rfl) ?_
        refine lv_iload hx hb dL_law_1500 (lv_at hl 5 rfl) ?_
        refine lv_iconst (v := (1 : Int32)) hx hb dL_law_1502 (by decide) ?_
        refine lv_iadd hx hb dL_law_1503 ?_
        obtain ⟨h0, h⟩ := h
        refine va_sld hx hb hX hbl hbA hh.2 h0 dL_law_1504 ?_
        refine q_Vi (As := [.int (xs (l4 + (1 : Int32)).toNatClampNeg)]) (rest := []) E hh (c_X9_fleet l G _ _ _ _ h) (cwV 1 hts gL_law_X9_fleet rfl rfl rfl (by decide +kernel) ⟨Nat.le_of_ble_eq_true rfl, Nat.le_of_ble_eq_true rfl⟩) (va_recv (ci := 9) E.2.1 hh.1 rfl (WW_at_28 G s1493)) rfl hl.1 rfl (Nat.le_of_ble_eq_true rfl) dL_law_1505 ⟨(by omega : cells + 1 ≤ 1086), (by omega : slots + 6 ≤ 10650)⟩ (fun r1505 s1505 H locs h hh => ?_)
        refine lv_istore (lv' := [(6, .int r1505), (5, .int r1493), (0, .ref b), (1, .ref (G.2.1 0)), (2, .ref (G.2.1 28)), (3, .ref (G.2.1 47)), (4, .int l4)]) hx hb dL_law_1508 hl (by decide) rfl (fun ls hl => ?_)
        refine lv_aload_n hx hb dL_law_1510 rfl (lv_at hl 4 rfl) ?_
        refine q_Vi (As := []) (rest := []) E hh (c_X9_thrown l G _ _  _ h) (cwV 0 hts gL_law_X9_thrown rfl rfl rfl (by decide +kernel) ⟨Nat.le_of_ble_eq_true rfl, Nat.le_of_ble_eq_true rfl⟩) (va_recv (ci := 9) E.2.1 hh.1 rfl (WW_at_28 G s1505)) rfl hl.1 rfl (Nat.le_of_ble_eq_true rfl) dL_law_1511 ⟨(by omega : cells + 1 ≤ 1086), (by omega : slots + 6 ≤ 10650)⟩ (fun r1511 s1511 H locs h hh => ?_)
        refine lv_iload hx hb dL_law_1514 (lv_at hl 1 rfl) ?_
        refine lv_icmp_eq (tgt := 1521) hx hb dL_law_1516 (by decide) (fun c9 => ?_) (fun c9 => ?_)
        · have h := h.1 c9
          refine lv_iload hx hb dL_law_1521 (lv_at hl 1 rfl) ?_
          refine lv_if_ne (tgt := 1538) hx hb dL_law_1523 (by decide) (fun c9 => ?_) (fun c9 => ?_)
          · have h := h.1 c9
            refine lv_goto (tgt := 1629) hx hb dL_law_1538 (by decide) ?_
            refine lv_iinc (v := (l4 + 6)) (lv' := [(4, .int (l4 + 6)), (6, .int r1505), (5, .int r1493), (0, .ref b), (1, .ref (G.2.1 0)), (2, .ref (G.2.1 28)), (3, .ref (G.2.1 47))]) hx hb dL_law_1629 hl (k := 6) rfl rfl (by decide) rfl (fun ls hl => ?_)
            refine lv_goto (tgt := 23) hx hb dL_law_1632 (by decide) ?_
            exact ih _ _ _ _ _ _ _ h (by omega) (by omega) hh (lv_sub hl [3, 4, 5, 6, 0] rfl)
          · have h := h.2 c9
            refine lv_aload_n hx hb dL_law_1526 rfl (lv_at hl 5 rfl) ?_
            refine lv_iconst (v := (0 : Int32)) hx hb dL_law_1527 (by decide) ?_
            refine q_lald E hh 47 (WW_at_47 G s1511) (vp_in_nI (n := 0) (by decide) (by decide)) dL_law_1528 ?_
            refine lv_iload hx hb dL_law_1529 (lv_at hl 0 rfl) ?_
            refine lv_i2l (v := r1505.toInt64) hx hb dL_law_1531 rfl ?_
            refine W.lcmp hx hb dL_law_1532 ?_
            refine lv_if_eq (tgt := 1538) hx hb dL_law_1533 (by decide) (fun c9 => ?_) (fun c9 => ?_)
            · have h := h.1 c9
              refine lv_goto (tgt := 1629) hx hb dL_law_1538 (by decide) ?_
              refine lv_iinc (v := (l4 + 6)) (lv' := [(4, .int (l4 + 6)), (6, .int r1505), (5, .int r1493), (0, .ref b), (1, .ref (G.2.1 0)), (2, .ref (G.2.1 28)), (3, .ref (G.2.1 47))]) hx hb dL_law_1629 hl (k := 6) rfl rfl (by decide) rfl (fun ls hl => ?_)
              refine lv_goto (tgt := 23) hx hb dL_law_1632 (by decide) ?_
              exact ih _ _ _ _ _ _ _ h (by omega) (by omega) hh (lv_sub hl [3, 4, 5, 6, 0] rfl)
            · have h := h.2 c9
              exact h.elim
        · have h := h.2 c9
          exact h.elim
      have h := h.2 c9_24
      by_cases c9_25 : ((xs l4.toNatClampNeg) &&& (31 : Int32)) = (25 : Int32)
      · have h := h.1 c9_25
        refine lv_tableIn (tgt := 1541) hx hb dL_law_40 (by rw [c9_25]; decide) (by rw [c9_25]; decide) (by rw [c9_25] <;> rfl) (by decide) ?_
        refine lv_aload_n hx hb dL_law_1541 rfl (lv_at hl 1 rfl) ?_
        refine lv_aload_n hx hb dL_law_1542 rfl (lv_at hl 0 rfl) ?_
        refine lv_iload hx hb dL_law_1543 (lv_at hl 4 rfl) ?_
        refine lv_iconst (v := (1 : Int32)) hx hb dL_law_1545 (by decide) ?_
        refine lv_iadd hx hb dL_law_1546 ?_
        obtain ⟨h0, h⟩ := h
        refine va_sld hx hb hX hbl hbA hh.2 h0 dL_law_1547 ?_
        refine q_Vi (As := [.int (xs (l4 + (1 : Int32)).toNatClampNeg)]) (rest := []) E hh (c_X8_noise l G _ _ _ _ h) (cwV 1 hts gL_law_X8_noise rfl rfl rfl (by decide +kernel) ⟨Nat.le_of_ble_eq_true rfl, Nat.le_of_ble_eq_true rfl⟩) (va_recv (ci := 8) E.2.1 hh.1 rfl (WW_at_0 G σ)) rfl hl.1 rfl (Nat.le_of_ble_eq_true rfl) dL_law_1548 ⟨(by omega : cells ≤ 1086), (by omega : slots ≤ 10650)⟩ (fun r1548 s1548 H locs h hh => ?_)
        refine lv_aload_n hx hb dL_law_1551 rfl (lv_at hl 2 rfl) ?_
        refine lv_aload_n hx hb dL_law_1552 rfl (lv_at hl 0 rfl) ?_
        refine lv_iload hx hb dL_law_1553 (lv_at hl 4 rfl) ?_
        refine lv_iconst (v := (1 : Int32)) hx hb dL_law_1555 (by decide) ?_
        refine lv_iadd hx hb dL_law_1556 ?_
        obtain ⟨h0, h⟩ := h
        refine va_sld hx hb hX hbl hbA hh.2 h0 dL_law_1557 ?_
        refine q_Vi (As := [.int (xs (l4 + (1 : Int32)).toNatClampNeg)]) (rest := [.int r1548]) E hh (c_X9_noise l G _ _ _ _ h) (cwV 1 hts gL_law_X9_noise rfl rfl rfl (by decide +kernel) ⟨Nat.le_of_ble_eq_true rfl, Nat.le_of_ble_eq_true rfl⟩) (va_recv (ci := 9) E.2.1 hh.1 rfl (WW_at_28 G s1548)) rfl hl.1 rfl (Nat.le_of_ble_eq_true rfl) dL_law_1558 ⟨(by omega : cells ≤ 1086), (by omega : slots ≤ 10650)⟩ (fun r1558 s1558 H locs h hh => ?_)
        refine lv_icmp_eq (tgt := 1629) hx hb dL_law_1561 (by decide) (fun c9 => ?_) (fun c9 => ?_)
        · have h := h.1 c9
          refine lv_iinc (v := (l4 + 6)) (lv' := [(4, .int (l4 + 6)), (0, .ref b), (1, .ref (G.2.1 0)), (2, .ref (G.2.1 28)), (3, .ref (G.2.1 47))]) hx hb dL_law_1629 hl (k := 4) rfl rfl (by decide) rfl (fun ls hl => ?_)
          refine lv_goto (tgt := 23) hx hb dL_law_1632 (by decide) ?_
          exact ih _ _ _ _ _ _ _ h (by omega) (by omega) hh (lv_sub hl [1, 2, 3, 4, 0] rfl)
        · have h := h.2 c9
          exact h.elim
      have h := h.2 c9_25
      by_cases c9_26 : ((xs l4.toNatClampNeg) &&& (31 : Int32)) = (26 : Int32)
      · have h := h.1 c9_26
        refine lv_tableIn (tgt := 1566) hx hb dL_law_40 (by rw [c9_26]; decide) (by rw [c9_26]; decide) (by rw [c9_26] <;> rfl) (by decide) ?_
        refine lv_aload_n hx hb dL_law_1566 rfl (lv_at hl 1 rfl) ?_
        refine q_Vi (As := []) (rest := []) E hh (c_X8_draw l G _ _  _ h) (cwV 0 hts gL_law_X8_draw rfl rfl rfl (by decide +kernel) ⟨Nat.le_of_ble_eq_true rfl, Nat.le_of_ble_eq_true rfl⟩) (va_recv (ci := 8) E.2.1 hh.1 rfl (WW_at_0 G σ)) rfl hl.1 rfl (Nat.le_of_ble_eq_true rfl) dL_law_1567 ⟨(by omega : cells ≤ 1086), (by omega : slots ≤ 10650)⟩ (fun r1567 s1567 H locs h hh => ?_)
        refine lv_aload_n hx hb dL_law_1570 rfl (lv_at hl 2 rfl) ?_
        refine q_Vi (As := []) (rest := [.int r1567]) E hh (c_X9_draw l G _ _  _ h) (cwV 0 hts gL_law_X9_draw rfl rfl rfl (by decide +kernel) ⟨Nat.le_of_ble_eq_true rfl, Nat.le_of_ble_eq_true rfl⟩) (va_recv (ci := 9) E.2.1 hh.1 rfl (WW_at_28 G s1567)) rfl hl.1 rfl (Nat.le_of_ble_eq_true rfl) dL_law_1571 ⟨(by omega : cells ≤ 1086), (by omega : slots ≤ 10650)⟩ (fun r1571 s1571 H locs h hh => ?_)
        refine lv_icmp_eq (tgt := 1629) hx hb dL_law_1574 (by decide) (fun c9 => ?_) (fun c9 => ?_)
        · have h := h.1 c9
          refine lv_iinc (v := (l4 + 6)) (lv' := [(4, .int (l4 + 6)), (0, .ref b), (1, .ref (G.2.1 0)), (2, .ref (G.2.1 28)), (3, .ref (G.2.1 47))]) hx hb dL_law_1629 hl (k := 4) rfl rfl (by decide) rfl (fun ls hl => ?_)
          refine lv_goto (tgt := 23) hx hb dL_law_1632 (by decide) ?_
          exact ih _ _ _ _ _ _ _ h (by omega) (by omega) hh (lv_sub hl [1, 2, 3, 4, 0] rfl)
        · have h := h.2 c9
          exact h.elim
      have h := h.2 c9_26
      by_cases c9_27 : ((xs l4.toNatClampNeg) &&& (31 : Int32)) = (27 : Int32)
      · have h := h.1 c9_27
        refine lv_tableIn (tgt := 1579) hx hb dL_law_40 (by rw [c9_27]; decide) (by rw [c9_27]; decide) (by rw [c9_27] <;> rfl) (by decide) ?_
        refine lv_aload_n hx hb dL_law_1579 rfl (lv_at hl 1 rfl) ?_
        refine lv_aload_n hx hb dL_law_1580 rfl (lv_at hl 0 rfl) ?_
        refine lv_iload hx hb dL_law_1581 (lv_at hl 4 rfl) ?_
        refine lv_iconst (v := (1 : Int32)) hx hb dL_law_1583 (by decide) ?_
        refine lv_iadd hx hb dL_law_1584 ?_
        obtain ⟨h0, h⟩ := h
        refine va_sld hx hb hX hbl hbA hh.2 h0 dL_law_1585 ?_
        refine q_Vi (As := [.int (xs (l4 + (1 : Int32)).toNatClampNeg)]) (rest := []) E hh (c_X8_lot l G _ _ _ _ h) (cwV 1 hts gL_law_X8_lot rfl rfl rfl (by decide +kernel) ⟨Nat.le_of_ble_eq_true rfl, Nat.le_of_ble_eq_true rfl⟩) (va_recv (ci := 8) E.2.1 hh.1 rfl (WW_at_0 G σ)) rfl hl.1 rfl (Nat.le_of_ble_eq_true rfl) dL_law_1586 ⟨(by omega : cells ≤ 1086), (by omega : slots ≤ 10650)⟩ (fun r1586 s1586 H locs h hh => ?_)
        refine lv_aload_n hx hb dL_law_1589 rfl (lv_at hl 2 rfl) ?_
        refine lv_aload_n hx hb dL_law_1590 rfl (lv_at hl 0 rfl) ?_
        refine lv_iload hx hb dL_law_1591 (lv_at hl 4 rfl) ?_
        refine lv_iconst (v := (1 : Int32)) hx hb dL_law_1593 (by decide) ?_
        refine lv_iadd hx hb dL_law_1594 ?_
        obtain ⟨h0, h⟩ := h
        refine va_sld hx hb hX hbl hbA hh.2 h0 dL_law_1595 ?_
        refine q_Vi (As := [.int (xs (l4 + (1 : Int32)).toNatClampNeg)]) (rest := [.int r1586]) E hh (c_X9_lot l G _ _ _ _ h) (cwV 1 hts gL_law_X9_lot rfl rfl rfl (by decide +kernel) ⟨Nat.le_of_ble_eq_true rfl, Nat.le_of_ble_eq_true rfl⟩) (va_recv (ci := 9) E.2.1 hh.1 rfl (WW_at_28 G s1586)) rfl hl.1 rfl (Nat.le_of_ble_eq_true rfl) dL_law_1596 ⟨(by omega : cells ≤ 1086), (by omega : slots ≤ 10650)⟩ (fun r1596 s1596 H locs h hh => ?_)
        refine lv_icmp_eq (tgt := 1629) hx hb dL_law_1599 (by decide) (fun c9 => ?_) (fun c9 => ?_)
        · have h := h.1 c9
          refine lv_iinc (v := (l4 + 6)) (lv' := [(4, .int (l4 + 6)), (0, .ref b), (1, .ref (G.2.1 0)), (2, .ref (G.2.1 28)), (3, .ref (G.2.1 47))]) hx hb dL_law_1629 hl (k := 4) rfl rfl (by decide) rfl (fun ls hl => ?_)
          refine lv_goto (tgt := 23) hx hb dL_law_1632 (by decide) ?_
          exact ih _ _ _ _ _ _ _ h (by omega) (by omega) hh (lv_sub hl [1, 2, 3, 4, 0] rfl)
        · have h := h.2 c9
          exact h.elim
      have h := h.2 c9_27
      by_cases c9_28 : ((xs l4.toNatClampNeg) &&& (31 : Int32)) = (28 : Int32)
      · have h := h.1 c9_28
        refine lv_tableIn (tgt := 1604) hx hb dL_law_40 (by rw [c9_28]; decide) (by rw [c9_28]; decide) (by rw [c9_28] <;> rfl) (by decide) ?_
        refine lv_aload_n hx hb dL_law_1604 rfl (lv_at hl 1 rfl) ?_
        refine lv_aload_n hx hb dL_law_1605 rfl (lv_at hl 0 rfl) ?_
        refine lv_iload hx hb dL_law_1606 (lv_at hl 4 rfl) ?_
        refine lv_iconst (v := (1 : Int32)) hx hb dL_law_1608 (by decide) ?_
        refine lv_iadd hx hb dL_law_1609 ?_
        obtain ⟨h0, h⟩ := h
        refine va_sld hx hb hX hbl hbA hh.2 h0 dL_law_1610 ?_
        refine q_Vi (As := [.int (xs (l4 + (1 : Int32)).toNatClampNeg)]) (rest := []) E hh (c_X8_count l G _ _ _ _ h) (cwV 1 hts gL_law_X8_count rfl rfl rfl (by decide +kernel) ⟨Nat.le_of_ble_eq_true rfl, Nat.le_of_ble_eq_true rfl⟩) (va_recv (ci := 8) E.2.1 hh.1 rfl (WW_at_0 G σ)) rfl hl.1 rfl (Nat.le_of_ble_eq_true rfl) dL_law_1611 ⟨(by omega : cells ≤ 1086), (by omega : slots ≤ 10650)⟩ (fun r1611 s1611 H locs h hh => ?_)
        refine lv_aload_n hx hb dL_law_1614 rfl (lv_at hl 2 rfl) ?_
        refine lv_aload_n hx hb dL_law_1615 rfl (lv_at hl 0 rfl) ?_
        refine lv_iload hx hb dL_law_1616 (lv_at hl 4 rfl) ?_
        refine lv_iconst (v := (1 : Int32)) hx hb dL_law_1618 (by decide) ?_
        refine lv_iadd hx hb dL_law_1619 ?_
        obtain ⟨h0, h⟩ := h
        refine va_sld hx hb hX hbl hbA hh.2 h0 dL_law_1620 ?_
        refine q_Vi (As := [.int (xs (l4 + (1 : Int32)).toNatClampNeg)]) (rest := [.int r1611]) E hh (c_X9_count l G _ _ _ _ h) (cwV 1 hts gL_law_X9_count rfl rfl rfl (by decide +kernel) ⟨Nat.le_of_ble_eq_true rfl, Nat.le_of_ble_eq_true rfl⟩) (va_recv (ci := 9) E.2.1 hh.1 rfl (WW_at_28 G s1611)) rfl hl.1 rfl (Nat.le_of_ble_eq_true rfl) dL_law_1621 ⟨(by omega : cells ≤ 1086), (by omega : slots ≤ 10650)⟩ (fun r1621 s1621 H locs h hh => ?_)
        refine lv_icmp_eq (tgt := 1629) hx hb dL_law_1624 (by decide) (fun c9 => ?_) (fun c9 => ?_)
        · have h := h.1 c9
          refine lv_iinc (v := (l4 + 6)) (lv' := [(4, .int (l4 + 6)), (0, .ref b), (1, .ref (G.2.1 0)), (2, .ref (G.2.1 28)), (3, .ref (G.2.1 47))]) hx hb dL_law_1629 hl (k := 4) rfl rfl (by decide) rfl (fun ls hl => ?_)
          refine lv_goto (tgt := 23) hx hb dL_law_1632 (by decide) ?_
          exact ih _ _ _ _ _ _ _ h (by omega) (by omega) hh (lv_sub hl [1, 2, 3, 4, 0] rfl)
        · have h := h.2 c9
          exact h.elim
      have h := h.2 c9_28
      refine lv_tableOut (tgt := 1629) hx hb dL_law_40 (by have z0 := lv_neT c9_0 (show ((0 : Int32)).toInt = 0 by decide); have z1 := lv_neT c9_1 (show ((1 : Int32)).toInt = 1 by decide); have z2 := lv_neT c9_2 (show ((2 : Int32)).toInt = 2 by decide); have z3 := lv_neT c9_3 (show ((3 : Int32)).toInt = 3 by decide); have z4 := lv_neT c9_4 (show ((4 : Int32)).toInt = 4 by decide); have z5 := lv_neT c9_5 (show ((5 : Int32)).toInt = 5 by decide); have z6 := lv_neT c9_6 (show ((6 : Int32)).toInt = 6 by decide); have z7 := lv_neT c9_7 (show ((7 : Int32)).toInt = 7 by decide); have z8 := lv_neT c9_8 (show ((8 : Int32)).toInt = 8 by decide); have z9 := lv_neT c9_9 (show ((9 : Int32)).toInt = 9 by decide); have z10 := lv_neT c9_10 (show ((10 : Int32)).toInt = 10 by decide); have z11 := lv_neT c9_11 (show ((11 : Int32)).toInt = 11 by decide); have z12 := lv_neT c9_12 (show ((12 : Int32)).toInt = 12 by decide); have z13 := lv_neT c9_13 (show ((13 : Int32)).toInt = 13 by decide); have z14 := lv_neT c9_14 (show ((14 : Int32)).toInt = 14 by decide); have z15 := lv_neT c9_15 (show ((15 : Int32)).toInt = 15 by decide); have z16 := lv_neT c9_16 (show ((16 : Int32)).toInt = 16 by decide); have z17 := lv_neT c9_17 (show ((17 : Int32)).toInt = 17 by decide); have z18 := lv_neT c9_18 (show ((18 : Int32)).toInt = 18 by decide); have z19 := lv_neT c9_19 (show ((19 : Int32)).toInt = 19 by decide); have z20 := lv_neT c9_20 (show ((20 : Int32)).toInt = 20 by decide); have z21 := lv_neT c9_21 (show ((21 : Int32)).toInt = 21 by decide); have z22 := lv_neT c9_22 (show ((22 : Int32)).toInt = 22 by decide); have z23 := lv_neT c9_23 (show ((23 : Int32)).toInt = 23 by decide); have z24 := lv_neT c9_24 (show ((24 : Int32)).toInt = 24 by decide); have z25 := lv_neT c9_25 (show ((25 : Int32)).toInt = 25 by decide); have z26 := lv_neT c9_26 (show ((26 : Int32)).toInt = 26 by decide); have z27 := lv_neT c9_27 (show ((27 : Int32)).toInt = 27 by decide); have z28 := lv_neT c9_28 (show ((28 : Int32)).toInt = 28 by decide); omega) (by decide) ?_
      refine lv_iinc (v := (l4 + 6)) (lv' := [(4, .int (l4 + 6)), (0, .ref b), (1, .ref (G.2.1 0)), (2, .ref (G.2.1 28)), (3, .ref (G.2.1 47))]) hx hb dL_law_1629 hl (k := 4) rfl rfl (by decide) rfl (fun ls hl => ?_)
      refine lv_goto (tgt := 23) hx hb dL_law_1632 (by decide) ?_
      exact ih _ _ _ _ _ _ _ h (by omega) (by omega) hh (lv_sub hl [1, 2, 3, 4, 0] rfl)
