theorem dL_law_2748 : decode cL_law 2748 = .ok (.ifCond .eq 5, 3) := by decide +kernel
theorem dL_law_2751 : decode cL_law 2751 = .ok (.iconst 0, 1) := by decide +kernel
theorem dL_law_2752 : decode cL_law 2752 = .ok (.ireturn, 1) := by decide +kernel
theorem dL_law_2753 : decode cL_law 2753 = .ok (.goto 664, 3) := by decide +kernel
theorem dL_law_2756 : decode cL_law 2756 = .ok (.aload_n 1, 1) := by decide +kernel
theorem dL_law_2757 : decode cL_law 2757 = .ok (.invokevirtual 331, 3) := by decide +kernel
theorem dL_law_2760 : decode cL_law 2760 = .ok (.aload_n 2, 1) := by decide +kernel
theorem dL_law_2761 : decode cL_law 2761 = .ok (.invokevirtual 334, 3) := by decide +kernel
theorem dL_law_2764 : decode cL_law 2764 = .ok (.if_icmp .eq 653, 3) := by decide +kernel
theorem dL_law_2767 : decode cL_law 2767 = .ok (.iconst 0, 1) := by decide +kernel
theorem dL_law_2768 : decode cL_law 2768 = .ok (.ireturn, 1) := by decide +kernel
theorem dL_law_2769 : decode cL_law 2769 = .ok (.aload_n 1, 1) := by decide +kernel
theorem dL_law_2770 : decode cL_law 2770 = .ok (.aload 4, 2) := by decide +kernel
theorem dL_law_2772 : decode cL_law 2772 = .ok (.invokestatic 335, 3) := by decide +kernel
theorem dL_law_2775 : decode cL_law 2775 = .ok (.istore 6, 2) := by decide +kernel
theorem dL_law_2777 : decode cL_law 2777 = .ok (.aload_n 2, 1) := by decide +kernel
theorem dL_law_2778 : decode cL_law 2778 = .ok (.invokevirtual 338, 3) := by decide +kernel
theorem dL_law_2781 : decode cL_law 2781 = .ok (.dstore 7, 2) := by decide +kernel
theorem dL_law_2783 : decode cL_law 2783 = .ok (.aload_n 2, 1) := by decide +kernel
theorem dL_law_2784 : decode cL_law 2784 = .ok (.invokevirtual 193, 3) := by decide +kernel
theorem dL_law_2787 : decode cL_law 2787 = .ok (.iload 6, 2) := by decide +kernel
theorem dL_law_2789 : decode cL_law 2789 = .ok (.if_icmp .eq 5, 3) := by decide +kernel
theorem dL_law_2792 : decode cL_law 2792 = .ok (.iconst 0, 1) := by decide +kernel
theorem dL_law_2793 : decode cL_law 2793 = .ok (.ireturn, 1) := by decide +kernel
theorem dL_law_2794 : decode cL_law 2794 = .ok (.iload 6, 2) := by decide +kernel
theorem dL_law_2796 : decode cL_law 2796 = .ok (.ifCond .ne 35, 3) := by decide +kernel
theorem dL_law_2799 : decode cL_law 2799 = .ok (.aload 4, 2) := by decide +kernel
theorem dL_law_2801 : decode cL_law 2801 = .ok (.iconst 0, 1) := by decide +kernel
theorem dL_law_2802 : decode cL_law 2802 = .ok (.daload, 1) := by decide +kernel
theorem dL_law_2803 : decode cL_law 2803 = .ok (.dload 7, 2) := by decide +kernel
theorem dL_law_2805 : decode cL_law 2805 = .ok (.dcmp .l, 1) := by decide +kernel
theorem dL_law_2806 : decode cL_law 2806 = .ok (.ifCond .eq 25, 3) := by decide +kernel
theorem dL_law_2809 : decode cL_law 2809 = .ok (.aload 4, 2) := by decide +kernel
theorem dL_law_2811 : decode cL_law 2811 = .ok (.iconst 0, 1) := by decide +kernel
theorem dL_law_2812 : decode cL_law 2812 = .ok (.daload, 1) := by decide +kernel
theorem dL_law_2813 : decode cL_law 2813 = .ok (.aload 4, 2) := by decide +kernel
theorem dL_law_2815 : decode cL_law 2815 = .ok (.iconst 0, 1) := by decide +kernel
theorem dL_law_2816 : decode cL_law 2816 = .ok (.daload, 1) := by decide +kernel
theorem dL_law_2817 : decode cL_law 2817 = .ok (.dcmp .l, 1) := by decide +kernel
theorem dL_law_2818 : decode cL_law 2818 = .ok (.ifCond .eq 11, 3) := by decide +kernel
theorem dL_law_2821 : decode cL_law 2821 = .ok (.dload 7, 2) := by decide +kernel
theorem dL_law_2823 : decode cL_law 2823 = .ok (.dload 7, 2) := by decide +kernel
theorem dL_law_2825 : decode cL_law 2825 = .ok (.dcmp .l, 1) := by decide +kernel
theorem dL_law_2826 : decode cL_law 2826 = .ok (.ifCond .ne 5, 3) := by decide +kernel
theorem dL_law_2829 : decode cL_law 2829 = .ok (.iconst 0, 1) := by decide +kernel
theorem dL_law_2830 : decode cL_law 2830 = .ok (.ireturn, 1) := by decide +kernel
theorem dL_law_2831 : decode cL_law 2831 = .ok (.goto 586, 3) := by decide +kernel
theorem dL_law_2834 : decode cL_law 2834 = .ok (.aload_n 1, 1) := by decide +kernel
theorem dL_law_2835 : decode cL_law 2835 = .ok (.aload 4, 2) := by decide +kernel
theorem dL_law_2837 : decode cL_law 2837 = .ok (.invokestatic 339, 3) := by decide +kernel
theorem dL_law_2840 : decode cL_law 2840 = .ok (.istore 6, 2) := by decide +kernel
theorem dL_law_2842 : decode cL_law 2842 = .ok (.aload_n 2, 1) := by decide +kernel
theorem dL_law_2843 : decode cL_law 2843 = .ok (.invokevirtual 341, 3) := by decide +kernel
theorem dL_law_2846 : decode cL_law 2846 = .ok (.fstore 7, 2) := by decide +kernel
theorem dL_law_2848 : decode cL_law 2848 = .ok (.aload_n 2, 1) := by decide +kernel
theorem dL_law_2849 : decode cL_law 2849 = .ok (.invokevirtual 193, 3) := by decide +kernel
theorem dL_law_2852 : decode cL_law 2852 = .ok (.iload 6, 2) := by decide +kernel
theorem dL_law_2854 : decode cL_law 2854 = .ok (.if_icmp .eq 5, 3) := by decide +kernel
theorem dL_law_2857 : decode cL_law 2857 = .ok (.iconst 0, 1) := by decide +kernel
theorem dL_law_2858 : decode cL_law 2858 = .ok (.ireturn, 1) := by decide +kernel
theorem dL_law_2859 : decode cL_law 2859 = .ok (.iload 6, 2) := by decide +kernel
theorem dL_law_2861 : decode cL_law 2861 = .ok (.ifCond .ne 36, 3) := by decide +kernel
theorem dL_law_2864 : decode cL_law 2864 = .ok (.aload 4, 2) := by decide +kernel
theorem dL_law_2866 : decode cL_law 2866 = .ok (.iconst 0, 1) := by decide +kernel
theorem dL_law_2867 : decode cL_law 2867 = .ok (.daload, 1) := by decide +kernel
theorem dL_law_2868 : decode cL_law 2868 = .ok (.fload 7, 2) := by decide +kernel
theorem dL_law_2870 : decode cL_law 2870 = .ok (.f2d, 1) := by decide +kernel
theorem dL_law_2871 : decode cL_law 2871 = .ok (.dcmp .l, 1) := by decide +kernel
theorem dL_law_2872 : decode cL_law 2872 = .ok (.ifCond .eq 25, 3) := by decide +kernel
theorem dL_law_2875 : decode cL_law 2875 = .ok (.aload 4, 2) := by decide +kernel
theorem dL_law_2877 : decode cL_law 2877 = .ok (.iconst 0, 1) := by decide +kernel
theorem dL_law_2878 : decode cL_law 2878 = .ok (.daload, 1) := by decide +kernel
theorem dL_law_2879 : decode cL_law 2879 = .ok (.aload 4, 2) := by decide +kernel
theorem dL_law_2881 : decode cL_law 2881 = .ok (.iconst 0, 1) := by decide +kernel
theorem dL_law_2882 : decode cL_law 2882 = .ok (.daload, 1) := by decide +kernel
theorem dL_law_2883 : decode cL_law 2883 = .ok (.dcmp .l, 1) := by decide +kernel
theorem dL_law_2884 : decode cL_law 2884 = .ok (.ifCond .eq 11, 3) := by decide +kernel
theorem dL_law_2887 : decode cL_law 2887 = .ok (.fload 7, 2) := by decide +kernel
theorem dL_law_2889 : decode cL_law 2889 = .ok (.fload 7, 2) := by decide +kernel
theorem dL_law_2891 : decode cL_law 2891 = .ok (.fcmp .l, 1) := by decide +kernel
theorem dL_law_2892 : decode cL_law 2892 = .ok (.ifCond .ne 5, 3) := by decide +kernel
theorem dL_law_2895 : decode cL_law 2895 = .ok (.iconst 0, 1) := by decide +kernel
theorem dL_law_2896 : decode cL_law 2896 = .ok (.ireturn, 1) := by decide +kernel
theorem dL_law_2897 : decode cL_law 2897 = .ok (.goto 520, 3) := by decide +kernel
theorem dL_law_2900 : decode cL_law 2900 = .ok (.aload_n 1, 1) := by decide +kernel
theorem dL_law_2901 : decode cL_law 2901 = .ok (.invokevirtual 342, 3) := by decide +kernel
theorem dL_law_2904 : decode cL_law 2904 = .ok (.aload_n 2, 1) := by decide +kernel
theorem dL_law_2905 : decode cL_law 2905 = .ok (.invokevirtual 346, 3) := by decide +kernel
theorem dL_law_2908 : decode cL_law 2908 = .ok (.if_icmp .eq 509, 3) := by decide +kernel
theorem dL_law_2911 : decode cL_law 2911 = .ok (.iconst 0, 1) := by decide +kernel
theorem dL_law_2912 : decode cL_law 2912 = .ok (.ireturn, 1) := by decide +kernel
theorem dL_law_2913 : decode cL_law 2913 = .ok (.aload_n 1, 1) := by decide +kernel
theorem dL_law_2914 : decode cL_law 2914 = .ok (.invokevirtual 347, 3) := by decide +kernel
theorem dL_law_2917 : decode cL_law 2917 = .ok (.aload_n 2, 1) := by decide +kernel
theorem dL_law_2918 : decode cL_law 2918 = .ok (.invokevirtual 350, 3) := by decide +kernel
theorem dL_law_2921 : decode cL_law 2921 = .ok (.if_icmp .eq 496, 3) := by decide +kernel
theorem dL_law_2924 : decode cL_law 2924 = .ok (.iconst 0, 1) := by decide +kernel
theorem dL_law_2925 : decode cL_law 2925 = .ok (.ireturn, 1) := by decide +kernel
theorem dL_law_2926 : decode cL_law 2926 = .ok (.aload_n 1, 1) := by decide +kernel
theorem dL_law_2927 : decode cL_law 2927 = .ok (.aload_n 0, 1) := by decide +kernel
theorem dL_law_2928 : decode cL_law 2928 = .ok (.iload 5, 2) := by decide +kernel
theorem dL_law_2930 : decode cL_law 2930 = .ok (.iconst 1, 1) := by decide +kernel
theorem dL_law_2931 : decode cL_law 2931 = .ok (.iadd, 1) := by decide +kernel
theorem dL_law_2932 : decode cL_law 2932 = .ok (.iaload, 1) := by decide +kernel
theorem dL_law_2933 : decode cL_law 2933 = .ok (.aload_n 3, 1) := by decide +kernel
theorem dL_law_2934 : decode cL_law 2934 = .ok (.invokestatic 351, 3) := by decide +kernel
theorem dL_law_2937 : decode cL_law 2937 = .ok (.istore 6, 2) := by decide +kernel
theorem dL_law_2939 : decode cL_law 2939 = .ok (.aload_n 2, 1) := by decide +kernel
theorem dL_law_2940 : decode cL_law 2940 = .ok (.aload_n 0, 1) := by decide +kernel
theorem dL_law_2941 : decode cL_law 2941 = .ok (.iload 5, 2) := by decide +kernel
theorem dL_law_2943 : decode cL_law 2943 = .ok (.iconst 1, 1) := by decide +kernel
theorem dL_law_2944 : decode cL_law 2944 = .ok (.iadd, 1) := by decide +kernel
theorem dL_law_2945 : decode cL_law 2945 = .ok (.iaload, 1) := by decide +kernel
theorem dL_law_2946 : decode cL_law 2946 = .ok (.invokevirtual 353, 3) := by decide +kernel
theorem dL_law_2949 : decode cL_law 2949 = .ok (.istore 7, 2) := by decide +kernel
theorem dL_law_2951 : decode cL_law 2951 = .ok (.aload_n 2, 1) := by decide +kernel
theorem dL_law_2952 : decode cL_law 2952 = .ok (.invokevirtual 193, 3) := by decide +kernel
theorem dL_law_2955 : decode cL_law 2955 = .ok (.iload 6, 2) := by decide +kernel
theorem dL_law_2957 : decode cL_law 2957 = .ok (.if_icmp .eq 5, 3) := by decide +kernel
theorem dL_law_2960 : decode cL_law 2960 = .ok (.iconst 0, 1) := by decide +kernel
theorem dL_law_2961 : decode cL_law 2961 = .ok (.ireturn, 1) := by decide +kernel
theorem dL_law_2962 : decode cL_law 2962 = .ok (.iload 6, 2) := by decide +kernel
theorem dL_law_2964 : decode cL_law 2964 = .ok (.ifCond .ne 15, 3) := by decide +kernel
theorem dL_law_2967 : decode cL_law 2967 = .ok (.aload_n 3, 1) := by decide +kernel
theorem dL_law_2968 : decode cL_law 2968 = .ok (.iconst 0, 1) := by decide +kernel
theorem dL_law_2969 : decode cL_law 2969 = .ok (.laload, 1) := by decide +kernel
theorem dL_law_2970 : decode cL_law 2970 = .ok (.iload 7, 2) := by decide +kernel
theorem dL_law_2972 : decode cL_law 2972 = .ok (.i2l, 1) := by decide +kernel
theorem dL_law_2973 : decode cL_law 2973 = .ok (.lcmp, 1) := by decide +kernel
theorem dL_law_2974 : decode cL_law 2974 = .ok (.ifCond .eq 5, 3) := by decide +kernel
theorem dL_law_2977 : decode cL_law 2977 = .ok (.iconst 0, 1) := by decide +kernel
theorem dL_law_2978 : decode cL_law 2978 = .ok (.ireturn, 1) := by decide +kernel
theorem dL_law_2979 : decode cL_law 2979 = .ok (.goto 438, 3) := by decide +kernel
theorem dL_law_2982 : decode cL_law 2982 = .ok (.aload_n 1, 1) := by decide +kernel
theorem dL_law_2983 : decode cL_law 2983 = .ok (.aload_n 0, 1) := by decide +kernel
theorem dL_law_2984 : decode cL_law 2984 = .ok (.iload 5, 2) := by decide +kernel
theorem dL_law_2986 : decode cL_law 2986 = .ok (.iconst 1, 1) := by decide +kernel
theorem dL_law_2987 : decode cL_law 2987 = .ok (.iadd, 1) := by decide +kernel
theorem dL_law_2988 : decode cL_law 2988 = .ok (.iaload, 1) := by decide +kernel
theorem dL_law_2989 : decode cL_law 2989 = .ok (.aload_n 3, 1) := by decide +kernel
theorem dL_law_2990 : decode cL_law 2990 = .ok (.invokestatic 354, 3) := by decide +kernel
theorem dL_law_2993 : decode cL_law 2993 = .ok (.istore 6, 2) := by decide +kernel
theorem dL_law_2995 : decode cL_law 2995 = .ok (.aload_n 2, 1) := by decide +kernel
theorem dL_law_2996 : decode cL_law 2996 = .ok (.aload_n 0, 1) := by decide +kernel
theorem dL_law_2997 : decode cL_law 2997 = .ok (.iload 5, 2) := by decide +kernel
theorem dL_law_2999 : decode cL_law 2999 = .ok (.iconst 1, 1) := by decide +kernel
theorem dL_law_3000 : decode cL_law 3000 = .ok (.iadd, 1) := by decide +kernel
theorem dL_law_3001 : decode cL_law 3001 = .ok (.iaload, 1) := by decide +kernel
theorem dL_law_3002 : decode cL_law 3002 = .ok (.invokevirtual 356, 3) := by decide +kernel
theorem dL_law_3005 : decode cL_law 3005 = .ok (.istore 7, 2) := by decide +kernel
theorem dL_law_3007 : decode cL_law 3007 = .ok (.aload_n 2, 1) := by decide +kernel
theorem dL_law_3008 : decode cL_law 3008 = .ok (.invokevirtual 193, 3) := by decide +kernel
theorem dL_law_3011 : decode cL_law 3011 = .ok (.iload 6, 2) := by decide +kernel
theorem dL_law_3013 : decode cL_law 3013 = .ok (.if_icmp .eq 5, 3) := by decide +kernel
theorem dL_law_3016 : decode cL_law 3016 = .ok (.iconst 0, 1) := by decide +kernel
theorem dL_law_3017 : decode cL_law 3017 = .ok (.ireturn, 1) := by decide +kernel
theorem dL_law_3018 : decode cL_law 3018 = .ok (.iload 6, 2) := by decide +kernel
theorem dL_law_3020 : decode cL_law 3020 = .ok (.ifCond .ne 15, 3) := by decide +kernel
theorem dL_law_3023 : decode cL_law 3023 = .ok (.aload_n 3, 1) := by decide +kernel
theorem dL_law_3024 : decode cL_law 3024 = .ok (.iconst 0, 1) := by decide +kernel
theorem dL_law_3025 : decode cL_law 3025 = .ok (.laload, 1) := by decide +kernel
theorem dL_law_3026 : decode cL_law 3026 = .ok (.iload 7, 2) := by decide +kernel
theorem dL_law_3028 : decode cL_law 3028 = .ok (.i2l, 1) := by decide +kernel
theorem dL_law_3029 : decode cL_law 3029 = .ok (.lcmp, 1) := by decide +kernel
theorem dL_law_3030 : decode cL_law 3030 = .ok (.ifCond .eq 5, 3) := by decide +kernel
theorem dL_law_3033 : decode cL_law 3033 = .ok (.iconst 0, 1) := by decide +kernel
theorem dL_law_3034 : decode cL_law 3034 = .ok (.ireturn, 1) := by decide +kernel
theorem dL_law_3035 : decode cL_law 3035 = .ok (.goto 382, 3) := by decide +kernel
theorem dL_law_3038 : decode cL_law 3038 = .ok (.aload_n 1, 1) := by decide +kernel
theorem dL_law_3039 : decode cL_law 3039 = .ok (.aload_n 0, 1) := by decide +kernel
theorem dL_law_3040 : decode cL_law 3040 = .ok (.iload 5, 2) := by decide +kernel
theorem dL_law_3042 : decode cL_law 3042 = .ok (.iconst 1, 1) := by decide +kernel
theorem dL_law_3043 : decode cL_law 3043 = .ok (.iadd, 1) := by decide +kernel
theorem dL_law_3044 : decode cL_law 3044 = .ok (.iaload, 1) := by decide +kernel
theorem dL_law_3045 : decode cL_law 3045 = .ok (.i2c, 1) := by decide +kernel
theorem dL_law_3046 : decode cL_law 3046 = .ok (.aload_n 3, 1) := by decide +kernel
theorem dL_law_3047 : decode cL_law 3047 = .ok (.invokestatic 357, 3) := by decide +kernel
theorem dL_law_3050 : decode cL_law 3050 = .ok (.istore 6, 2) := by decide +kernel
theorem dL_law_3052 : decode cL_law 3052 = .ok (.aload_n 2, 1) := by decide +kernel
theorem dL_law_3053 : decode cL_law 3053 = .ok (.aload_n 0, 1) := by decide +kernel
theorem dL_law_3054 : decode cL_law 3054 = .ok (.iload 5, 2) := by decide +kernel
theorem dL_law_3056 : decode cL_law 3056 = .ok (.iconst 1, 1) := by decide +kernel
theorem dL_law_3057 : decode cL_law 3057 = .ok (.iadd, 1) := by decide +kernel
theorem dL_law_3058 : decode cL_law 3058 = .ok (.iaload, 1) := by decide +kernel
theorem dL_law_3059 : decode cL_law 3059 = .ok (.i2c, 1) := by decide +kernel
theorem dL_law_3060 : decode cL_law 3060 = .ok (.invokevirtual 360, 3) := by decide +kernel
theorem dL_law_3063 : decode cL_law 3063 = .ok (.istore 7, 2) := by decide +kernel
theorem dL_law_3065 : decode cL_law 3065 = .ok (.aload_n 2, 1) := by decide +kernel
theorem dL_law_3066 : decode cL_law 3066 = .ok (.invokevirtual 193, 3) := by decide +kernel
theorem dL_law_3069 : decode cL_law 3069 = .ok (.iload 6, 2) := by decide +kernel
theorem dL_law_3071 : decode cL_law 3071 = .ok (.if_icmp .eq 5, 3) := by decide +kernel
theorem dL_law_3074 : decode cL_law 3074 = .ok (.iconst 0, 1) := by decide +kernel
theorem dL_law_3075 : decode cL_law 3075 = .ok (.ireturn, 1) := by decide +kernel
theorem dL_law_3076 : decode cL_law 3076 = .ok (.iload 6, 2) := by decide +kernel
theorem dL_law_3078 : decode cL_law 3078 = .ok (.ifCond .ne 15, 3) := by decide +kernel
theorem dL_law_3081 : decode cL_law 3081 = .ok (.aload_n 3, 1) := by decide +kernel
theorem dL_law_3082 : decode cL_law 3082 = .ok (.iconst 0, 1) := by decide +kernel
theorem dL_law_3083 : decode cL_law 3083 = .ok (.laload, 1) := by decide +kernel
theorem dL_law_3084 : decode cL_law 3084 = .ok (.iload 7, 2) := by decide +kernel
theorem dL_law_3086 : decode cL_law 3086 = .ok (.i2l, 1) := by decide +kernel
